set_option maxRecDepth 100000 in
set_option maxHeartbeats 4000000 in
/-- SilentTableModel.apart -/
theorem rf_c247 {d : Nat} {m : Nat → Int32} {w : Int64} {h : pm_H} {Q : Option Value → pm_H → Prop} {a0 : Int32} {a1 : Int32} {a2 : Int32} (T : rf_T m w h)  (K : ∀ (r : Int32) (m' : Nat → Int32) (w' : Int64) (h' : pm_H), rf_T m' w' h' → rf_G [41, 53, 54, 66] h h' → rf_W [0, 23, 24, 26] m m' → sf_B (-1) 9 r → Q (some (.int r)) h') : pm_R (d + 7) 247 0 [.ref 41, .int a0, .int a1, .int a2, pm_no, pm_no] [] h Q := by
  refine pm_R_lo pm_M247 (pc' := 1) rfl rfl rfl ?_
  refine pm_R_op pm_M247 (pc' := 2) (st' := [.int 0, .ref 41]) rfl rfl rfl ?_
  refine rf_R_put pm_M247 T (pc' := 5) rfl rfl rfl (by decide) rfl rfl sf_k0 rfl rfl (fun h1 m4 em5 T2 F3 => ?_)
  have F6 := (rf_G.refl [41, 53, 54, 66] h).trans F3 (by decide)
  have B7 : sf_B 0 0 (m4 0) := by rw [em5]; exact sf_k0
  have W9 : rf_W [0, 23, 24, 26] m m4 := by rw [em5]; exact (rf_W.refl [0, 23, 24, 26] m).put (by decide)
  refine pm_R_lo pm_M247 (pc' := 6) rfl rfl rfl ?_
  refine pm_R_op pm_M247 (pc' := 7) (st' := [.int 0, .ref 41]) rfl rfl rfl ?_
  refine pm_R_lo pm_M247 (pc' := 8) rfl rfl rfl ?_
  refine pm_R_cv pm_M247 (pc' := 11) (a := 41) (ra := [.int a0, .int 0]) (rest := []) (ls' := [.ref 41, .int 0, .int a0]) rfl rfl (Or.inl rfl) pm_M177 T2.2.1 rfl (by decide) (Nat.lt_of_lt_of_le (by decide) T2.1) rfl rfl (Nat.le_of_ble_eq_true rfl) rfl rfl ?_
  refine pm_R_lo pm_M177 (pc' := 1) rfl rfl rfl ?_
  refine pm_R_op pm_M177 (pc' := 2) (st' := [.int 0, .int a0]) rfl rfl rfl ?_
  refine pm_R_lo pm_M177 (pc' := 3) rfl rfl rfl ?_
  refine rf_R_get pm_M177 T2 (pc' := 6) (v := .ref 46) rfl rfl rfl rfl ?_
  refine pm_R_lo pm_M177 (pc' := 7) rfl rfl rfl ?_
  obtain ⟨f10, e11, b12⟩ := T2.2.2.2.1 46 (by decide) (by decide)
  refine rf_R_ild pm_M177 T2 (pc' := 8) rfl e11 (by decide) rfl rfl (fun z13 ez14 => ?_)
  have B15 : sf_B 0 2 z13 := ez14 ▸ (b12 0)
  refine pm_R_op pm_M177 (pc' := 9) (st' := [.int 1, .int z13, .int 0, .int a0]) rfl rfl rfl ?_
  refine sf_R_isub pm_M177 (pc' := 10) rfl rfl B15 sf_k1 (by decide) (by decide) (fun z16 e17 B18 => ?_)
  refine pm_R_cs pm_M177 (pc' := 13) (ra := [.int z16, .int 0, .int a0]) (rest := []) (ls' := [.int a0, .int 0, .int z16]) rfl rfl (Or.inl rfl) pm_M174 rfl rfl (Nat.le_of_ble_eq_true rfl) rfl rfl ?_
  refine pm_R_lo pm_M174 (pc' := 1) rfl rfl rfl ?_
  refine pm_R_lo pm_M174 (pc' := 2) rfl rfl rfl ?_
  refine pm_R_icmp pm_M174 (t := 14) (pc' := 5) rfl rfl rfl (fun c19 => ?_) (fun c19 => ?_)
  · have B20 : sf_B (-2147483648) (-1) a0 := sf_ltL c19 (sf_any a0) sf_k0
    refine pm_R_op pm_M174 (pc' := 15) (st' := [.int 0]) rfl rfl rfl ?_
    refine pm_R_ret pm_M174 (r := some (.int 0)) rfl rfl ?_
    show pm_R _ 177 13 [.ref 41, .int 0, .int a0] [.int 0] _ _
    refine pm_R_ret pm_M177 (r := some (.int 0)) rfl rfl ?_
    show pm_R _ 247 11 [.ref 41, .int a0, .int a1, .int a2, pm_no, pm_no] [.int 0] _ _
    refine pm_R_br pm_M247 (pc' := 23) (st' := []) rfl rfl ?_
    refine pm_R_op pm_M247 (pc' := 24) (st' := [.int (-1)]) rfl rfl rfl ?_
    exact pm_R_ret pm_M247 (r := some (.int (-1))) rfl rfl (K (-1) m4 w h1 T2 F6 W9 (sf_weak sf_kn1 (by decide) (by decide)))
  · have B21 : sf_B 0 2147483647 a0 := sf_leR (Int32.not_lt.mp c19) sf_k0 (sf_any a0)
    refine pm_R_lo pm_M174 (pc' := 6) rfl rfl rfl ?_
    refine pm_R_lo pm_M174 (pc' := 7) rfl rfl rfl ?_
    refine pm_R_icmp pm_M174 (t := 14) (pc' := 10) rfl rfl rfl (fun c22 => ?_) (fun c22 => ?_)
    · skip
      refine pm_R_op pm_M174 (pc' := 15) (st' := [.int 0]) rfl rfl rfl ?_
      refine pm_R_ret pm_M174 (r := some (.int 0)) rfl rfl ?_
      show pm_R _ 177 13 [.ref 41, .int 0, .int a0] [.int 0] _ _
      refine pm_R_ret pm_M177 (r := some (.int 0)) rfl rfl ?_
      show pm_R _ 247 11 [.ref 41, .int a0, .int a1, .int a2, pm_no, pm_no] [.int 0] _ _
      refine pm_R_br pm_M247 (pc' := 23) (st' := []) rfl rfl ?_
      refine pm_R_op pm_M247 (pc' := 24) (st' := [.int (-1)]) rfl rfl rfl ?_
      exact pm_R_ret pm_M247 (r := some (.int (-1))) rfl rfl (K (-1) m4 w h1 T2 F6 W9 (sf_weak sf_kn1 (by decide) (by decide)))
    · have B23 : sf_B 0 1 a0 := sf_leL (Int32.not_lt.mp c22) B21 B18
      have B24 : sf_B 0 1 z16 := sf_leR (Int32.not_lt.mp c22) B21 B18
      refine pm_R_op pm_M174 (pc' := 11) (st' := [.int 1]) rfl rfl rfl ?_
      refine pm_R_br pm_M174 (pc' := 15) rfl rfl ?_
      refine pm_R_ret pm_M174 (r := some (.int 1)) rfl rfl ?_
      show pm_R _ 177 13 [.ref 41, .int 0, .int a0] [.int 1] _ _
      refine pm_R_ret pm_M177 (r := some (.int 1)) rfl rfl ?_
      show pm_R _ 247 11 [.ref 41, .int a0, .int a1, .int a2, pm_no, pm_no] [.int 1] _ _
      refine pm_R_br pm_M247 (pc' := 14) (st' := []) rfl rfl ?_
      refine pm_R_lo pm_M247 (pc' := 15) rfl rfl rfl ?_
      refine pm_R_op pm_M247 (pc' := 16) (st' := [.int 0, .ref 41]) rfl rfl rfl ?_
      refine pm_R_lo pm_M247 (pc' := 17) rfl rfl rfl ?_
      refine pm_R_cv pm_M247 (pc' := 20) (a := 41) (ra := [.int a1, .int 0]) (rest := []) (ls' := [.ref 41, .int 0, .int a1]) rfl rfl (Or.inl rfl) pm_M177 T2.2.1 rfl (by decide) (Nat.lt_of_lt_of_le (by decide) T2.1) rfl rfl (Nat.le_of_ble_eq_true rfl) rfl rfl ?_
      refine pm_R_lo pm_M177 (pc' := 1) rfl rfl rfl ?_
      refine pm_R_op pm_M177 (pc' := 2) (st' := [.int 0, .int a1]) rfl rfl rfl ?_
      refine pm_R_lo pm_M177 (pc' := 3) rfl rfl rfl ?_
      refine rf_R_get pm_M177 T2 (pc' := 6) (v := .ref 46) rfl rfl rfl rfl ?_
      refine pm_R_lo pm_M177 (pc' := 7) rfl rfl rfl ?_
      refine pm_R_iald pm_M177 (pc' := 8) (v := z13) rfl e11 (Nat.lt_of_lt_of_le (by decide) T2.1) rfl ez14 rfl ?_
      refine pm_R_op pm_M177 (pc' := 9) (st' := [.int 1, .int z13, .int 0, .int a1]) rfl rfl rfl ?_
      refine sf_R_isubV pm_M177 (pc' := 10) rfl rfl B15 sf_k1 (by decide) (by decide) e17 ?_
      refine pm_R_cs pm_M177 (pc' := 13) (ra := [.int z16, .int 0, .int a1]) (rest := []) (ls' := [.int a1, .int 0, .int z16]) rfl rfl (Or.inl rfl) pm_M174 rfl rfl (Nat.le_of_ble_eq_true rfl) rfl rfl ?_
      refine pm_R_lo pm_M174 (pc' := 1) rfl rfl rfl ?_
      refine pm_R_lo pm_M174 (pc' := 2) rfl rfl rfl ?_
      refine pm_R_icmp pm_M174 (t := 14) (pc' := 5) rfl rfl rfl (fun c27 => ?_) (fun c27 => ?_)
      · have B28 : sf_B (-2147483648) (-1) a1 := sf_ltL c27 (sf_any a1) sf_k0
        refine pm_R_op pm_M174 (pc' := 15) (st' := [.int 0]) rfl rfl rfl ?_
        refine pm_R_ret pm_M174 (r := some (.int 0)) rfl rfl ?_
        show pm_R _ 177 13 [.ref 41, .int 0, .int a1] [.int 0] _ _
        refine pm_R_ret pm_M177 (r := some (.int 0)) rfl rfl ?_
        show pm_R _ 247 20 [.ref 41, .int a0, .int a1, .int a2, pm_no, pm_no] [.int 0] _ _
        refine pm_R_br pm_M247 (pc' := 23) (st' := []) rfl rfl ?_
        refine pm_R_op pm_M247 (pc' := 24) (st' := [.int (-1)]) rfl rfl rfl ?_
        exact pm_R_ret pm_M247 (r := some (.int (-1))) rfl rfl (K (-1) m4 w h1 T2 F6 W9 (sf_weak sf_kn1 (by decide) (by decide)))
      · have B29 : sf_B 0 2147483647 a1 := sf_leR (Int32.not_lt.mp c27) sf_k0 (sf_any a1)
        refine pm_R_lo pm_M174 (pc' := 6) rfl rfl rfl ?_
        refine pm_R_lo pm_M174 (pc' := 7) rfl rfl rfl ?_
        refine pm_R_icmp pm_M174 (t := 14) (pc' := 10) rfl rfl rfl (fun c30 => ?_) (fun c30 => ?_)
        · have B31 : sf_B 1 2147483647 a1 := sf_ltR c30 B24 B29
          refine pm_R_op pm_M174 (pc' := 15) (st' := [.int 0]) rfl rfl rfl ?_
          refine pm_R_ret pm_M174 (r := some (.int 0)) rfl rfl ?_
          show pm_R _ 177 13 [.ref 41, .int 0, .int a1] [.int 0] _ _
          refine pm_R_ret pm_M177 (r := some (.int 0)) rfl rfl ?_
          show pm_R _ 247 20 [.ref 41, .int a0, .int a1, .int a2, pm_no, pm_no] [.int 0] _ _
          refine pm_R_br pm_M247 (pc' := 23) (st' := []) rfl rfl ?_
          refine pm_R_op pm_M247 (pc' := 24) (st' := [.int (-1)]) rfl rfl rfl ?_
          exact pm_R_ret pm_M247 (r := some (.int (-1))) rfl rfl (K (-1) m4 w h1 T2 F6 W9 (sf_weak sf_kn1 (by decide) (by decide)))
        · have B32 : sf_B 0 1 a1 := sf_leL (Int32.not_lt.mp c30) B29 B24
          refine pm_R_op pm_M174 (pc' := 11) (st' := [.int 1]) rfl rfl rfl ?_
          refine pm_R_br pm_M174 (pc' := 15) rfl rfl ?_
          refine pm_R_ret pm_M174 (r := some (.int 1)) rfl rfl ?_
          show pm_R _ 177 13 [.ref 41, .int 0, .int a1] [.int 1] _ _
          refine pm_R_ret pm_M177 (r := some (.int 1)) rfl rfl ?_
          show pm_R _ 247 20 [.ref 41, .int a0, .int a1, .int a2, pm_no, pm_no] [.int 1] _ _
          refine pm_R_br pm_M247 (pc' := 25) (st' := []) rfl rfl ?_
          refine pm_R_op pm_M247 (pc' := 26) (st' := [.int 1]) rfl rfl rfl ?_
          refine pm_R_lo pm_M247 (pc' := 28) (ls' := [.ref 41, .int a0, .int a1, .int a2, .int 1, pm_no]) (st' := []) rfl rfl rfl ?_
          have L_2912 : ∀ (N : Nat) (h_2912 : pm_H) (m_2912 : Nat → Int32) (w_2912 : Int64) (x4_2912 : Int32) (g5_2912 : Value), rf_T m_2912 w_2912 h_2912 → rf_G [41, 53, 54, 66] h h_2912 → rf_W [23, 24, 26] m4 m_2912 → sf_B 1 4 x4_2912 → g5_2912.category = 1 → (4 - x4_2912.toInt).toNat = N → pm_R (d + 7) 247 28 [.ref 41, .int a0, .int a1, .int a2, .int x4_2912, g5_2912] [] h_2912 Q := by
            intro N
            induction N using Nat.strongRecOn with
            | ind N ih_2912 =>
              intro h_2912 m_2912 w_2912 x4_2912 g5_2912 T_2912 F_2912 W_2912 Bx4_2912 Cg5_2912 hN_2912
              have W2915 : rf_W [0, 23, 24, 26] m m_2912 := W9.trans W_2912 (by decide)
              refine pm_R_lo pm_M247 (pc' := 30) rfl rfl rfl ?_
              refine pm_R_op pm_M247 (pc' := 31) (st' := [.int 3, .int x4_2912]) rfl rfl rfl ?_
              refine pm_R_icmp pm_M247 (t := 95) (pc' := 34) rfl rfl rfl (fun c2916 => ?_) (fun c2916 => ?_)
              · have B2917 : sf_B 4 4 x4_2912 := sf_ltR c2916 sf_k3 Bx4_2912
                refine pm_R_op pm_M247 (pc' := 96) (st' := [.int (-1)]) rfl rfl rfl ?_
                exact pm_R_ret pm_M247 (r := some (.int (-1))) rfl rfl (K (-1) m_2912 w_2912 h_2912 T_2912 F_2912 W2915 (sf_weak sf_kn1 (by decide) (by decide)))
              · have B2918 : sf_B 1 3 x4_2912 := sf_leL (Int32.not_lt.mp c2916) Bx4_2912 sf_k3
                refine pm_R_op pm_M247 (pc' := 35) (st' := [.int 0]) rfl rfl rfl ?_
                refine pm_R_lo pm_M247 (pc' := 37) (ls' := [.ref 41, .int a0, .int a1, .int a2, .int x4_2912, .int 0]) (st' := []) rfl rfl rfl ?_
                have L_3524 : ∀ (N : Nat) (h_3524 : pm_H) (m_3524 : Nat → Int32) (w_3524 : Int64) (x5_3524 : Int32), rf_T m_3524 w_3524 h_3524 → rf_G [41, 53, 54, 66] h h_3524 → rf_W [23, 24, 26] m_2912 m_3524 → sf_B 0 2147483647 x5_3524 → (2147483647 - x5_3524.toInt).toNat = N → pm_R (d + 7) 247 37 [.ref 41, .int a0, .int a1, .int a2, .int x4_2912, .int x5_3524] [] h_3524 Q := by
                  intro N
                  induction N using Nat.strongRecOn with
                  | ind N ih_3524 =>
                    intro h_3524 m_3524 w_3524 x5_3524 T_3524 F_3524 W_3524 Bx5_3524 hN_3524
                    have W3527 : rf_W [0, 23, 24, 26] m m_3524 := W2915.trans W_3524 (by decide)
                    have W3528 : rf_W [23, 24, 26] m4 m_3524 := W_2912.trans W_3524 (by decide)
                    refine pm_R_lo pm_M247 (pc' := 39) rfl rfl rfl ?_
                    refine pm_R_lo pm_M247 (pc' := 41) rfl rfl rfl ?_
                    refine pm_R_cs pm_M247 (pc' := 44) (ra := [.int x4_2912]) (rest := [.int x5_3524]) (ls' := [.int x4_2912, pm_no, pm_no]) rfl rfl (Or.inl rfl) pm_M242 rfl rfl (Nat.le_of_ble_eq_true rfl) rfl rfl ?_
                    refine rf_c242 (d := d + 6) (sf_weak B2918 (by decide) (by decide)) (fun r3529 => ?_)
                    show pm_R _ 247 44 [.ref 41, .int a0, .int a1, .int a2, .int x4_2912, .int x5_3524] [.int r3529, .int x5_3524] _ _
                    refine pm_R_icmp pm_M247 (t := 89) (pc' := 47) rfl rfl rfl (fun c3537 => ?_) (fun c3537 => ?_)
                    · skip
                      refine sf_R_iinc pm_M247 (pc' := 92) (ls' := fun z => [.ref 41, .int a0, .int a1, .int a2, .int z, .int x5_3524]) rfl B2918 rfl (by decide) (by decide) (by decide) (fun _ => rfl) rfl (fun z3538 e3539 B3540 => ?_)
                      show pm_R _ 247 92 [.ref 41, .int a0, .int a1, .int a2, .int z3538, .int x5_3524] [] _ _
                      refine pm_R_br pm_M247 (pc' := 28) rfl rfl ?_
                      exact ih_2912 _ (sf_up hN_2912 e3539 B2918 (by decide) (by decide)) h_3524 m_3524 w_3524 z3538 (.int x5_3524) T_3524 F_3524 W3528 (sf_weak B3540 (by decide) (by decide)) rfl rfl
                    · have B3541 : sf_B 0 2147483646 x5_3524 := sf_ltL (Int32.not_le.mp c3537) Bx5_3524 (sf_any r3529)
                      have B3542 : sf_B 1 2147483647 r3529 := sf_ltR (Int32.not_le.mp c3537) Bx5_3524 (sf_any r3529)
                      refine pm_R_lo pm_M247 (pc' := 48) rfl rfl rfl ?_
                      refine pm_R_lo pm_M247 (pc' := 49) rfl rfl rfl ?_
                      refine pm_R_lo pm_M247 (pc' := 51) rfl rfl rfl ?_
                      refine pm_R_lo pm_M247 (pc' := 53) rfl rfl rfl ?_
                      refine pm_R_cv pm_M247 (pc' := 56) (a := 41) (ra := [.int x5_3524, .int x4_2912, .int a0]) (rest := []) (ls' := [.ref 41, .int a0, .int x4_2912, .int x5_3524]) rfl rfl (Or.inl rfl) pm_M248 T_3524.2.1 rfl (by decide) (Nat.lt_of_lt_of_le (by decide) T_3524.1) rfl rfl (Nat.le_of_ble_eq_true rfl) rfl rfl ?_
                      refine pm_R_lo pm_M248 (pc' := 1) rfl rfl rfl ?_
                      refine pm_R_lo pm_M248 (pc' := 2) rfl rfl rfl ?_
                      refine rf_R_put pm_M248 T_3524 (pc' := 5) rfl rfl rfl (by decide) rfl rfl B23 rfl rfl (fun h3543 m3546 em3547 T3544 F3545 => ?_)
                      have F3548 := F_3524.trans F3545 (by decide)
                      have B3549 : sf_B 0 1 (m3546 23) := by rw [em3547]; exact B23
                      have ek3550 : (m3546 23).toInt = (a0).toInt := by rw [em3547]; rfl
                      have W3551 : rf_W [0, 23, 24, 26] m m3546 := by rw [em3547]; exact W3527.put (by decide)
                      have W3552 : rf_W [23, 24, 26] m4 m3546 := by rw [em3547]; exact W3528.put (by decide)
                      have W3553 : rf_W [23, 24, 26] m_2912 m3546 := by rw [em3547]; exact W_3524.put (by decide)
                      refine pm_R_lo pm_M248 (pc' := 6) rfl rfl rfl ?_
                      refine pm_R_lo pm_M248 (pc' := 7) rfl rfl rfl ?_
                      refine pm_R_lo pm_M248 (pc' := 8) rfl rfl rfl ?_
                      refine pm_R_cv pm_M248 (pc' := 11) (a := 41) (ra := [.int x5_3524, .int x4_2912]) (rest := []) (ls' := [.ref 41, .int x4_2912, .int x5_3524, pm_no, pm_no]) rfl rfl (Or.inl rfl) pm_M244 T3544.2.1 rfl (by decide) (Nat.lt_of_lt_of_le (by decide) T3544.1) rfl rfl (Nat.le_of_ble_eq_true rfl) rfl rfl ?_
                      refine rf_c244 (d := d + 5) T3544 (sf_weak B2918 (by decide) (by decide)) (sf_weak B3541 (by decide) (by decide)) (fun m3556 w3557 h3558 T3559 F3560 W3561 B3562 => ?_)
                      have F3563 := F3548.trans F3560 (by decide)
                      have W3564 : rf_W [0, 23, 24, 26] m m3556 := W3551.trans W3561 (by decide)
                      have W3565 : rf_W [23, 24, 26] m4 m3556 := W3552.trans W3561 (by decide)
                      have W3566 : rf_W [23, 24, 26] m_2912 m3556 := W3553.trans W3561 (by decide)
                      show pm_R _ 248 11 [.ref 41, .int a0, .int x4_2912, .int x5_3524] [] _ _
                      refine pm_R_lo pm_M248 (pc' := 12) rfl rfl rfl ?_
                      refine pm_R_cv pm_M248 (pc' := 15) (a := 41) (ra := []) (rest := []) (ls' := [.ref 41]) rfl rfl (Or.inl rfl) pm_M215 T3559.2.1 rfl (by decide) (Nat.lt_of_lt_of_le (by decide) T3559.1) rfl rfl (Nat.le_of_ble_eq_true rfl) rfl rfl ?_
                      refine rf_c215 (d := d + 0) T3559 (sf_weak B3562 (by decide) (by decide)) (fun r3567 m3569 w3570 h3571 T3572 F3573 W3574 => ?_)
                      have F3575 := F3563.trans F3573 (by decide)
                      have B3576 : sf_B 1 4 (m3569 24) := by rw [W3574 24 (by decide)]; exact B3562
                      have W3577 : rf_W [0, 23, 24, 26] m m3569 := W3564.trans W3574 (by decide)
                      have W3578 : rf_W [23, 24, 26] m4 m3569 := W3565.trans W3574 (by decide)
                      have W3579 : rf_W [23, 24, 26] m_2912 m3569 := W3566.trans W3574 (by decide)
                      show pm_R _ 248 15 [.ref 41, .int a0, .int x4_2912, .int x5_3524] [.long r3567] _ _
                      refine pm_R_ret pm_M248 (r := some (.long r3567)) rfl rfl ?_
                      show pm_R _ 247 56 [.ref 41, .int a0, .int a1, .int a2, .int x4_2912, .int x5_3524] [.long r3567] _ _
                      refine pm_R_lo pm_M247 (pc' := 57) rfl rfl rfl ?_
                      refine pm_R_lo pm_M247 (pc' := 58) rfl rfl rfl ?_
                      refine pm_R_lo pm_M247 (pc' := 60) rfl rfl rfl ?_
                      refine pm_R_lo pm_M247 (pc' := 62) rfl rfl rfl ?_
                      refine pm_R_cv pm_M247 (pc' := 65) (a := 41) (ra := [.int x5_3524, .int x4_2912, .int a1]) (rest := [.long r3567]) (ls' := [.ref 41, .int a1, .int x4_2912, .int x5_3524]) rfl rfl (Or.inl rfl) pm_M248 T3572.2.1 rfl (by decide) (Nat.lt_of_lt_of_le (by decide) T3572.1) rfl rfl (Nat.le_of_ble_eq_true rfl) rfl rfl ?_
                      refine pm_R_lo pm_M248 (pc' := 1) rfl rfl rfl ?_
                      refine pm_R_lo pm_M248 (pc' := 2) rfl rfl rfl ?_
                      refine rf_R_put pm_M248 T3572 (pc' := 5) rfl rfl rfl (by decide) rfl rfl B32 rfl rfl (fun h3580 m3583 em3584 T3581 F3582 => ?_)
                      have F3585 := F3575.trans F3582 (by decide)
                      have B3586 : sf_B 1 4 (m3583 24) := by rw [em3584]; exact B3576
                      have B3587 : sf_B 0 1 (m3583 23) := by rw [em3584]; exact B32
                      have ek3588 : (m3583 23).toInt = (a1).toInt := by rw [em3584]; rfl
                      have W3589 : rf_W [0, 23, 24, 26] m m3583 := by rw [em3584]; exact W3577.put (by decide)
                      have W3590 : rf_W [23, 24, 26] m4 m3583 := by rw [em3584]; exact W3578.put (by decide)
                      have W3591 : rf_W [23, 24, 26] m_2912 m3583 := by rw [em3584]; exact W3579.put (by decide)
                      refine pm_R_lo pm_M248 (pc' := 6) rfl rfl rfl ?_
                      refine pm_R_lo pm_M248 (pc' := 7) rfl rfl rfl ?_
                      refine pm_R_lo pm_M248 (pc' := 8) rfl rfl rfl ?_
                      refine pm_R_cv pm_M248 (pc' := 11) (a := 41) (ra := [.int x5_3524, .int x4_2912]) (rest := []) (ls' := [.ref 41, .int x4_2912, .int x5_3524, pm_no, pm_no]) rfl rfl (Or.inl rfl) pm_M244 T3581.2.1 rfl (by decide) (Nat.lt_of_lt_of_le (by decide) T3581.1) rfl rfl (Nat.le_of_ble_eq_true rfl) rfl rfl ?_
                      refine rf_c244 (d := d + 5) T3581 (sf_weak B2918 (by decide) (by decide)) (sf_weak B3541 (by decide) (by decide)) (fun m3594 w3595 h3596 T3597 F3598 W3599 B3600 => ?_)
                      have F3601 := F3585.trans F3598 (by decide)
                      have W3602 : rf_W [0, 23, 24, 26] m m3594 := W3589.trans W3599 (by decide)
                      have W3603 : rf_W [23, 24, 26] m4 m3594 := W3590.trans W3599 (by decide)
                      have W3604 : rf_W [23, 24, 26] m_2912 m3594 := W3591.trans W3599 (by decide)
                      show pm_R _ 248 11 [.ref 41, .int a1, .int x4_2912, .int x5_3524] [] _ _
                      refine pm_R_lo pm_M248 (pc' := 12) rfl rfl rfl ?_
                      refine pm_R_cv pm_M248 (pc' := 15) (a := 41) (ra := []) (rest := []) (ls' := [.ref 41]) rfl rfl (Or.inl rfl) pm_M215 T3597.2.1 rfl (by decide) (Nat.lt_of_lt_of_le (by decide) T3597.1) rfl rfl (Nat.le_of_ble_eq_true rfl) rfl rfl ?_
                      refine rf_c215 (d := d + 0) T3597 (sf_weak B3600 (by decide) (by decide)) (fun r3605 m3607 w3608 h3609 T3610 F3611 W3612 => ?_)
                      have F3613 := F3601.trans F3611 (by decide)
                      have B3614 : sf_B 1 4 (m3607 24) := by rw [W3612 24 (by decide)]; exact B3600
                      have W3615 : rf_W [0, 23, 24, 26] m m3607 := W3602.trans W3612 (by decide)
                      have W3616 : rf_W [23, 24, 26] m4 m3607 := W3603.trans W3612 (by decide)
                      have W3617 : rf_W [23, 24, 26] m_2912 m3607 := W3604.trans W3612 (by decide)
                      show pm_R _ 248 15 [.ref 41, .int a1, .int x4_2912, .int x5_3524] [.long r3605] _ _
                      refine pm_R_ret pm_M248 (r := some (.long r3605)) rfl rfl ?_
                      show pm_R _ 247 65 [.ref 41, .int a0, .int a1, .int a2, .int x4_2912, .int x5_3524] [.long r3605, .long r3567] _ _
                      refine sf_R_lcmp pm_M247 (pc' := 66) rfl rfl (fun z3618 e3619 => ?_)
                      refine pm_R_ifc pm_M247 (t := 83) (pc' := 69) rfl rfl rfl (fun c3620 => ?_) (fun c3620 => ?_)
                      · have B3621 : sf_B 0 0 z3618 := sf_eqL c3620 sf_k0
                        refine sf_R_iinc pm_M247 (pc' := 86) (ls' := fun z => [.ref 41, .int a0, .int a1, .int a2, .int x4_2912, .int z]) rfl B3541 rfl (by decide) (by decide) (by decide) (fun _ => rfl) rfl (fun z3622 e3623 B3624 => ?_)
                        show pm_R _ 247 86 [.ref 41, .int a0, .int a1, .int a2, .int x4_2912, .int z3622] [] _ _
                        refine pm_R_br pm_M247 (pc' := 37) rfl rfl ?_
                        exact ih_3524 _ (sf_up hN_3524 e3623 B3541 (by decide) (by decide)) h3609 m3607 w3608 z3622 T3610 F3613 W3617 (sf_weak B3624 (by decide) (by decide)) rfl
                      · have k3625 := sf_lneC e3619 c3620
                        refine pm_R_lo pm_M247 (pc' := 70) rfl rfl rfl ?_
                        refine pm_R_lo pm_M247 (pc' := 72) rfl rfl rfl ?_
                        refine pm_R_lo pm_M247 (pc' := 74) rfl rfl rfl ?_
                        refine pm_R_cv pm_M247 (pc' := 77) (a := 41) (ra := [.int x5_3524, .int x4_2912]) (rest := []) (ls' := [.ref 41, .int x4_2912, .int x5_3524, pm_no, pm_no]) rfl rfl (Or.inl rfl) pm_M245 T3610.2.1 rfl (by decide) (Nat.lt_of_lt_of_le (by decide) T3610.1) rfl rfl (Nat.le_of_ble_eq_true rfl) rfl rfl ?_
                        refine rf_c245 (d := d + 6) T3610 (sf_weak B2918 (by decide) (by decide)) (sf_weak B3541 (by decide) (by decide)) (fun m3628 w3629 h3630 T3631 F3632 W3633 => ?_)
                        have F3634 := F3613.trans F3632 (by decide)
                        have B3635 : sf_B 1 4 (m3628 24) := by rw [W3633 24 (by decide)]; exact B3614
                        have W3636 : rf_W [0, 23, 24, 26] m m3628 := W3615.trans W3633 (by decide)
                        have W3637 : rf_W [23, 24, 26] m4 m3628 := W3616.trans W3633 (by decide)
                        have W3638 : rf_W [23, 24, 26] m_2912 m3628 := W3617.trans W3633 (by decide)
                        show pm_R _ 247 77 [.ref 41, .int a0, .int a1, .int a2, .int x4_2912, .int x5_3524] [] _ _
                        refine pm_R_lo pm_M247 (pc' := 78) rfl rfl rfl ?_
                        refine pm_R_lo pm_M247 (pc' := 79) rfl rfl rfl ?_
                        refine pm_R_cv pm_M247 (pc' := 82) (a := 41) (ra := [.int a2]) (rest := []) (ls' := [.ref 41, .int a2]) rfl rfl (Or.inl rfl) pm_M246 T3631.2.1 rfl (by decide) (Nat.lt_of_lt_of_le (by decide) T3631.1) rfl rfl (Nat.le_of_ble_eq_true rfl) rfl rfl ?_
                        refine pm_R_lo pm_M246 (pc' := 1) rfl rfl rfl ?_
                        refine pm_R_op pm_M246 (pc' := 2) (st' := [.int 0, .int a2]) rfl rfl rfl ?_
                        refine pm_R_lo pm_M246 (pc' := 3) rfl rfl rfl ?_
                        refine rf_R_get pm_M246 T3631 (pc' := 6) (v := .ref 66) rfl rfl rfl rfl ?_
                        refine pm_R_op pm_M246 (pc' := 7) (st' := [.int 0, .ref 66, .int 0, .int a2]) rfl rfl rfl ?_
                        obtain ⟨f3639, e3640, b3641⟩ := T3631.2.2.2.1 66 (by decide) (by decide)
                        refine rf_R_ild pm_M246 T3631 (pc' := 8) rfl e3640 (by decide) rfl rfl (fun z3642 ez3643 => ?_)
                        have B3644 : sf_B 0 4 z3642 := ez3643 ▸ (b3641 0)
                        refine pm_R_cs pm_M246 (pc' := 11) (ra := [.int z3642, .int 0, .int a2]) (rest := []) (ls' := [.int a2, .int 0, .int z3642]) rfl rfl (Or.inl rfl) pm_M174 rfl rfl (Nat.le_of_ble_eq_true rfl) rfl rfl ?_
                        refine pm_R_lo pm_M174 (pc' := 1) rfl rfl rfl ?_
                        refine pm_R_lo pm_M174 (pc' := 2) rfl rfl rfl ?_
                        refine pm_R_icmp pm_M174 (t := 14) (pc' := 5) rfl rfl rfl (fun c3645 => ?_) (fun c3645 => ?_)
                        · have B3646 : sf_B (-2147483648) (-1) a2 := sf_ltL c3645 (sf_any a2) sf_k0
                          refine pm_R_op pm_M174 (pc' := 15) (st' := [.int 0]) rfl rfl rfl ?_
                          refine pm_R_ret pm_M174 (r := some (.int 0)) rfl rfl ?_
                          show pm_R _ 246 11 [.ref 41, .int a2] [.int 0] _ _
                          refine pm_R_br pm_M246 (pc' := 23) (st' := []) rfl rfl ?_
                          refine pm_R_op pm_M246 (pc' := 24) (st' := [.int (-1)]) rfl rfl rfl ?_
                          refine pm_R_ret pm_M246 (r := some (.int (-1))) rfl rfl ?_
                          show pm_R _ 247 82 [.ref 41, .int a0, .int a1, .int a2, .int x4_2912, .int x5_3524] [.int (-1)] _ _
                          exact pm_R_ret pm_M247 (r := some (.int (-1))) rfl rfl (K (-1) m3628 w3629 h3630 T3631 F3634 W3636 (sf_weak sf_kn1 (by decide) (by decide)))
                        · have B3647 : sf_B 0 2147483647 a2 := sf_leR (Int32.not_lt.mp c3645) sf_k0 (sf_any a2)
                          refine pm_R_lo pm_M174 (pc' := 6) rfl rfl rfl ?_
                          refine pm_R_lo pm_M174 (pc' := 7) rfl rfl rfl ?_
                          refine pm_R_icmp pm_M174 (t := 14) (pc' := 10) rfl rfl rfl (fun c3648 => ?_) (fun c3648 => ?_)
                          · have B3649 : sf_B 1 2147483647 a2 := sf_ltR c3648 B3644 B3647
                            refine pm_R_op pm_M174 (pc' := 15) (st' := [.int 0]) rfl rfl rfl ?_
                            refine pm_R_ret pm_M174 (r := some (.int 0)) rfl rfl ?_
                            show pm_R _ 246 11 [.ref 41, .int a2] [.int 0] _ _
                            refine pm_R_br pm_M246 (pc' := 23) (st' := []) rfl rfl ?_
                            refine pm_R_op pm_M246 (pc' := 24) (st' := [.int (-1)]) rfl rfl rfl ?_
                            refine pm_R_ret pm_M246 (r := some (.int (-1))) rfl rfl ?_
                            show pm_R _ 247 82 [.ref 41, .int a0, .int a1, .int a2, .int x4_2912, .int x5_3524] [.int (-1)] _ _
                            exact pm_R_ret pm_M247 (r := some (.int (-1))) rfl rfl (K (-1) m3628 w3629 h3630 T3631 F3634 W3636 (sf_weak sf_kn1 (by decide) (by decide)))
                          · have B3650 : sf_B 0 4 a2 := sf_leL (Int32.not_lt.mp c3648) B3647 B3644
                            refine pm_R_op pm_M174 (pc' := 11) (st' := [.int 1]) rfl rfl rfl ?_
                            refine pm_R_br pm_M174 (pc' := 15) rfl rfl ?_
                            refine pm_R_ret pm_M174 (r := some (.int 1)) rfl rfl ?_
                            show pm_R _ 246 11 [.ref 41, .int a2] [.int 1] _ _
                            refine pm_R_br pm_M246 (pc' := 14) (st' := []) rfl rfl ?_
                            refine pm_R_lo pm_M246 (pc' := 15) rfl rfl rfl ?_
                            refine rf_R_get pm_M246 T3631 (pc' := 18) (v := .ref 66) rfl rfl rfl rfl ?_
                            refine pm_R_lo pm_M246 (pc' := 19) rfl rfl rfl ?_
                            refine rf_R_ild pm_M246 T3631 (pc' := 20) rfl e3640 (by decide) (sf_in B3650 (by decide) (by decide)) rfl (fun z3651 ez3652 => ?_)
                            have B3653 : sf_B 0 9 z3651 := ez3652 ▸ (rf_p66 b3641 _)
                            refine pm_R_br pm_M246 (pc' := 24) rfl rfl ?_
                            refine pm_R_ret pm_M246 (r := some (.int z3651)) rfl (pm_ret_i _) ?_
                            show pm_R _ 247 82 [.ref 41, .int a0, .int a1, .int a2, .int x4_2912, .int x5_3524] [.int z3651] _ _
                            exact pm_R_ret pm_M247 (r := some (.int z3651)) rfl (pm_ret_i _) (K z3651 m3628 w3629 h3630 T3631 F3634 W3636 (sf_weak B3653 (by decide) (by decide)))
                exact L_3524 _ h_2912 m_2912 w_2912 0 T_2912 F_2912 (rf_W.refl _ _) (sf_weak sf_k0 (by decide) (by decide)) rfl
          exact L_2912 _ h1 m4 w 1 (pm_no) T2 F6 (rf_W.refl _ _) (sf_weak sf_k1 (by decide) (by decide)) rfl rfl

set_option maxRecDepth 100000 in
set_option maxHeartbeats 4000000 in
/-- SilentTableModel.hole -/
theorem rf_c249 {d : Nat} {m : Nat → Int32} {w : Int64} {h : pm_H} {Q : Option Value → pm_H → Prop} {a0 : Int32} {a1 : Int32} {a2 : Int32} (T : rf_T m w h)  (K : ∀ (r : Int32) (m' : Nat → Int32) (w' : Int64) (h' : pm_H), rf_T m' w' h' → rf_G [41, 53, 54] h h' → rf_W [0, 23, 24, 26] m m' → Q (some (.int r)) h') : pm_R (d + 6) 249 0 [.ref 41, .int a0, .int a1, .int a2, pm_no, pm_no] [] h Q := by
  refine pm_R_lo pm_M249 (pc' := 1) rfl rfl rfl ?_
  refine pm_R_op pm_M249 (pc' := 2) (st' := [.int 0, .ref 41]) rfl rfl rfl ?_
  refine rf_R_put pm_M249 T (pc' := 5) rfl rfl rfl (by decide) rfl rfl sf_k0 rfl rfl (fun h1 m4 em5 T2 F3 => ?_)
  have F6 := (rf_G.refl [41, 53, 54] h).trans F3 (by decide)
  have B7 : sf_B 0 0 (m4 0) := by rw [em5]; exact sf_k0
  have W9 : rf_W [0, 23, 24, 26] m m4 := by rw [em5]; exact (rf_W.refl [0, 23, 24, 26] m).put (by decide)
  refine pm_R_lo pm_M249 (pc' := 6) rfl rfl rfl ?_
  refine pm_R_lo pm_M249 (pc' := 7) rfl rfl rfl ?_
  refine pm_R_lo pm_M249 (pc' := 8) rfl rfl rfl ?_
  refine pm_R_lo pm_M249 (pc' := 9) rfl rfl rfl ?_
  refine pm_R_cv pm_M249 (pc' := 12) (a := 41) (ra := [.int a2, .int a1, .int a0]) (rest := []) (ls' := [.ref 41, .int a0, .int a1, .int a2]) rfl rfl (Or.inl rfl) pm_M250 T2.2.1 rfl (by decide) (Nat.lt_of_lt_of_le (by decide) T2.1) rfl rfl (Nat.le_of_ble_eq_true rfl) rfl rfl ?_
  refine pm_R_lo pm_M250 (pc' := 1) rfl rfl rfl ?_
  refine pm_R_lo pm_M250 (pc' := 2) rfl rfl rfl ?_
  refine pm_R_lo pm_M250 (pc' := 3) rfl rfl rfl ?_
  refine pm_R_cv pm_M250 (pc' := 6) (a := 41) (ra := [.int a1, .int a0]) (rest := []) (ls' := [.ref 41, .int a0, .int a1]) rfl rfl (Or.inl rfl) pm_M200 T2.2.1 rfl (by decide) (Nat.lt_of_lt_of_le (by decide) T2.1) rfl rfl (Nat.le_of_ble_eq_true rfl) rfl rfl ?_
  refine pm_R_lo pm_M200 (pc' := 1) rfl rfl rfl ?_
  refine pm_R_op pm_M200 (pc' := 2) (st' := [.int 0, .ref 41]) rfl rfl rfl ?_
  refine pm_R_lo pm_M200 (pc' := 3) rfl rfl rfl ?_
  refine pm_R_cv pm_M200 (pc' := 6) (a := 41) (ra := [.int a0, .int 0]) (rest := []) (ls' := [.ref 41, .int 0, .int a0]) rfl rfl (Or.inl rfl) pm_M177 T2.2.1 rfl (by decide) (Nat.lt_of_lt_of_le (by decide) T2.1) rfl rfl (Nat.le_of_ble_eq_true rfl) rfl rfl ?_
  refine pm_R_lo pm_M177 (pc' := 1) rfl rfl rfl ?_
  refine pm_R_op pm_M177 (pc' := 2) (st' := [.int 0, .int a0]) rfl rfl rfl ?_
  refine pm_R_lo pm_M177 (pc' := 3) rfl rfl rfl ?_
  refine rf_R_get pm_M177 T2 (pc' := 6) (v := .ref 46) rfl rfl rfl rfl ?_
  refine pm_R_lo pm_M177 (pc' := 7) rfl rfl rfl ?_
  obtain ⟨f10, e11, b12⟩ := T2.2.2.2.1 46 (by decide) (by decide)
  refine rf_R_ild pm_M177 T2 (pc' := 8) rfl e11 (by decide) rfl rfl (fun z13 ez14 => ?_)
  have B15 : sf_B 0 2 z13 := ez14 ▸ (b12 0)
  refine pm_R_op pm_M177 (pc' := 9) (st' := [.int 1, .int z13, .int 0, .int a0]) rfl rfl rfl ?_
  refine sf_R_isub pm_M177 (pc' := 10) rfl rfl B15 sf_k1 (by decide) (by decide) (fun z16 e17 B18 => ?_)
  refine pm_R_cs pm_M177 (pc' := 13) (ra := [.int z16, .int 0, .int a0]) (rest := []) (ls' := [.int a0, .int 0, .int z16]) rfl rfl (Or.inl rfl) pm_M174 rfl rfl (Nat.le_of_ble_eq_true rfl) rfl rfl ?_
  refine pm_R_lo pm_M174 (pc' := 1) rfl rfl rfl ?_
  refine pm_R_lo pm_M174 (pc' := 2) rfl rfl rfl ?_
  refine pm_R_icmp pm_M174 (t := 14) (pc' := 5) rfl rfl rfl (fun c19 => ?_) (fun c19 => ?_)
  · have B20 : sf_B (-2147483648) (-1) a0 := sf_ltL c19 (sf_any a0) sf_k0
    refine pm_R_op pm_M174 (pc' := 15) (st' := [.int 0]) rfl rfl rfl ?_
    refine pm_R_ret pm_M174 (r := some (.int 0)) rfl rfl ?_
    show pm_R _ 177 13 [.ref 41, .int 0, .int a0] [.int 0] _ _
    refine pm_R_ret pm_M177 (r := some (.int 0)) rfl rfl ?_
    show pm_R _ 200 6 [.ref 41, .int a0, .int a1] [.int 0] _ _
    refine pm_R_br pm_M200 (pc' := 18) (st' := []) rfl rfl ?_
    refine pm_R_op pm_M200 (pc' := 19) (st' := [.int 0]) rfl rfl rfl ?_
    refine pm_R_ret pm_M200 (r := some (.int 0)) rfl rfl ?_
    show pm_R _ 250 6 [.ref 41, .int a0, .int a1, .int a2] [.int 0] _ _
    refine pm_R_br pm_M250 (pc' := 27) (st' := []) rfl rfl ?_
    refine pm_R_op pm_M250 (pc' := 28) (st' := [.int 0]) rfl rfl rfl ?_
    refine pm_R_ret pm_M250 (r := some (.int 0)) rfl rfl ?_
    show pm_R _ 249 12 [.ref 41, .int a0, .int a1, .int a2, pm_no, pm_no] [.int 0] _ _
    refine pm_R_br pm_M249 (pc' := 15) (st' := []) rfl rfl ?_
    refine pm_R_op pm_M249 (pc' := 16) (st' := [.int (-1)]) rfl rfl rfl ?_
    exact pm_R_ret pm_M249 (r := some (.int (-1))) rfl rfl (K (-1) m4 w h1 T2 F6 W9)
  · have B21 : sf_B 0 2147483647 a0 := sf_leR (Int32.not_lt.mp c19) sf_k0 (sf_any a0)
    refine pm_R_lo pm_M174 (pc' := 6) rfl rfl rfl ?_
    refine pm_R_lo pm_M174 (pc' := 7) rfl rfl rfl ?_
    refine pm_R_icmp pm_M174 (t := 14) (pc' := 10) rfl rfl rfl (fun c22 => ?_) (fun c22 => ?_)
    · skip
      refine pm_R_op pm_M174 (pc' := 15) (st' := [.int 0]) rfl rfl rfl ?_
      refine pm_R_ret pm_M174 (r := some (.int 0)) rfl rfl ?_
      show pm_R _ 177 13 [.ref 41, .int 0, .int a0] [.int 0] _ _
      refine pm_R_ret pm_M177 (r := some (.int 0)) rfl rfl ?_
      show pm_R _ 200 6 [.ref 41, .int a0, .int a1] [.int 0] _ _
      refine pm_R_br pm_M200 (pc' := 18) (st' := []) rfl rfl ?_
      refine pm_R_op pm_M200 (pc' := 19) (st' := [.int 0]) rfl rfl rfl ?_
      refine pm_R_ret pm_M200 (r := some (.int 0)) rfl rfl ?_
      show pm_R _ 250 6 [.ref 41, .int a0, .int a1, .int a2] [.int 0] _ _
      refine pm_R_br pm_M250 (pc' := 27) (st' := []) rfl rfl ?_
      refine pm_R_op pm_M250 (pc' := 28) (st' := [.int 0]) rfl rfl rfl ?_
      refine pm_R_ret pm_M250 (r := some (.int 0)) rfl rfl ?_
      show pm_R _ 249 12 [.ref 41, .int a0, .int a1, .int a2, pm_no, pm_no] [.int 0] _ _
      refine pm_R_br pm_M249 (pc' := 15) (st' := []) rfl rfl ?_
      refine pm_R_op pm_M249 (pc' := 16) (st' := [.int (-1)]) rfl rfl rfl ?_
      exact pm_R_ret pm_M249 (r := some (.int (-1))) rfl rfl (K (-1) m4 w h1 T2 F6 W9)
    · have B23 : sf_B 0 1 a0 := sf_leL (Int32.not_lt.mp c22) B21 B18
      have B24 : sf_B 0 1 z16 := sf_leR (Int32.not_lt.mp c22) B21 B18
      refine pm_R_op pm_M174 (pc' := 11) (st' := [.int 1]) rfl rfl rfl ?_
      refine pm_R_br pm_M174 (pc' := 15) rfl rfl ?_
      refine pm_R_ret pm_M174 (r := some (.int 1)) rfl rfl ?_
      show pm_R _ 177 13 [.ref 41, .int 0, .int a0] [.int 1] _ _
      refine pm_R_ret pm_M177 (r := some (.int 1)) rfl rfl ?_
      show pm_R _ 200 6 [.ref 41, .int a0, .int a1] [.int 1] _ _
      refine pm_R_br pm_M200 (pc' := 9) (st' := []) rfl rfl ?_
      refine pm_R_lo pm_M200 (pc' := 10) rfl rfl rfl ?_
      refine pm_R_op pm_M200 (pc' := 11) (st' := [.int 1, .ref 41]) rfl rfl rfl ?_
      refine pm_R_lo pm_M200 (pc' := 12) rfl rfl rfl ?_
      refine pm_R_cv pm_M200 (pc' := 15) (a := 41) (ra := [.int a1, .int 1]) (rest := []) (ls' := [.ref 41, .int 1, .int a1]) rfl rfl (Or.inl rfl) pm_M177 T2.2.1 rfl (by decide) (Nat.lt_of_lt_of_le (by decide) T2.1) rfl rfl (Nat.le_of_ble_eq_true rfl) rfl rfl ?_
      refine pm_R_lo pm_M177 (pc' := 1) rfl rfl rfl ?_
      refine pm_R_op pm_M177 (pc' := 2) (st' := [.int 0, .int a1]) rfl rfl rfl ?_
      refine pm_R_lo pm_M177 (pc' := 3) rfl rfl rfl ?_
      refine rf_R_get pm_M177 T2 (pc' := 6) (v := .ref 46) rfl rfl rfl rfl ?_
      refine pm_R_lo pm_M177 (pc' := 7) rfl rfl rfl ?_
      refine rf_R_ild pm_M177 T2 (pc' := 8) rfl e11 (by decide) rfl rfl (fun z25 ez26 => ?_)
      have B27 : sf_B 0 3 z25 := ez26 ▸ (b12 1)
      refine pm_R_op pm_M177 (pc' := 9) (st' := [.int 1, .int z25, .int 0, .int a1]) rfl rfl rfl ?_
      refine sf_R_isub pm_M177 (pc' := 10) rfl rfl B27 sf_k1 (by decide) (by decide) (fun z28 e29 B30 => ?_)
      refine pm_R_cs pm_M177 (pc' := 13) (ra := [.int z28, .int 0, .int a1]) (rest := []) (ls' := [.int a1, .int 0, .int z28]) rfl rfl (Or.inl rfl) pm_M174 rfl rfl (Nat.le_of_ble_eq_true rfl) rfl rfl ?_
      refine pm_R_lo pm_M174 (pc' := 1) rfl rfl rfl ?_
      refine pm_R_lo pm_M174 (pc' := 2) rfl rfl rfl ?_
      refine pm_R_icmp pm_M174 (t := 14) (pc' := 5) rfl rfl rfl (fun c31 => ?_) (fun c31 => ?_)
      · have B32 : sf_B (-2147483648) (-1) a1 := sf_ltL c31 (sf_any a1) sf_k0
        refine pm_R_op pm_M174 (pc' := 15) (st' := [.int 0]) rfl rfl rfl ?_
        refine pm_R_ret pm_M174 (r := some (.int 0)) rfl rfl ?_
        show pm_R _ 177 13 [.ref 41, .int 1, .int a1] [.int 0] _ _
        refine pm_R_ret pm_M177 (r := some (.int 0)) rfl rfl ?_
        show pm_R _ 200 15 [.ref 41, .int a0, .int a1] [.int 0] _ _
        refine pm_R_br pm_M200 (pc' := 18) (st' := []) rfl rfl ?_
        refine pm_R_op pm_M200 (pc' := 19) (st' := [.int 0]) rfl rfl rfl ?_
        refine pm_R_ret pm_M200 (r := some (.int 0)) rfl rfl ?_
        show pm_R _ 250 6 [.ref 41, .int a0, .int a1, .int a2] [.int 0] _ _
        refine pm_R_br pm_M250 (pc' := 27) (st' := []) rfl rfl ?_
        refine pm_R_op pm_M250 (pc' := 28) (st' := [.int 0]) rfl rfl rfl ?_
        refine pm_R_ret pm_M250 (r := some (.int 0)) rfl rfl ?_
        show pm_R _ 249 12 [.ref 41, .int a0, .int a1, .int a2, pm_no, pm_no] [.int 0] _ _
        refine pm_R_br pm_M249 (pc' := 15) (st' := []) rfl rfl ?_
        refine pm_R_op pm_M249 (pc' := 16) (st' := [.int (-1)]) rfl rfl rfl ?_
        exact pm_R_ret pm_M249 (r := some (.int (-1))) rfl rfl (K (-1) m4 w h1 T2 F6 W9)
      · have B33 : sf_B 0 2147483647 a1 := sf_leR (Int32.not_lt.mp c31) sf_k0 (sf_any a1)
        refine pm_R_lo pm_M174 (pc' := 6) rfl rfl rfl ?_
        refine pm_R_lo pm_M174 (pc' := 7) rfl rfl rfl ?_
        refine pm_R_icmp pm_M174 (t := 14) (pc' := 10) rfl rfl rfl (fun c34 => ?_) (fun c34 => ?_)
        · skip
          refine pm_R_op pm_M174 (pc' := 15) (st' := [.int 0]) rfl rfl rfl ?_
          refine pm_R_ret pm_M174 (r := some (.int 0)) rfl rfl ?_
          show pm_R _ 177 13 [.ref 41, .int 1, .int a1] [.int 0] _ _
          refine pm_R_ret pm_M177 (r := some (.int 0)) rfl rfl ?_
          show pm_R _ 200 15 [.ref 41, .int a0, .int a1] [.int 0] _ _
          refine pm_R_br pm_M200 (pc' := 18) (st' := []) rfl rfl ?_
          refine pm_R_op pm_M200 (pc' := 19) (st' := [.int 0]) rfl rfl rfl ?_
          refine pm_R_ret pm_M200 (r := some (.int 0)) rfl rfl ?_
          show pm_R _ 250 6 [.ref 41, .int a0, .int a1, .int a2] [.int 0] _ _
          refine pm_R_br pm_M250 (pc' := 27) (st' := []) rfl rfl ?_
          refine pm_R_op pm_M250 (pc' := 28) (st' := [.int 0]) rfl rfl rfl ?_
          refine pm_R_ret pm_M250 (r := some (.int 0)) rfl rfl ?_
          show pm_R _ 249 12 [.ref 41, .int a0, .int a1, .int a2, pm_no, pm_no] [.int 0] _ _
          refine pm_R_br pm_M249 (pc' := 15) (st' := []) rfl rfl ?_
          refine pm_R_op pm_M249 (pc' := 16) (st' := [.int (-1)]) rfl rfl rfl ?_
          exact pm_R_ret pm_M249 (r := some (.int (-1))) rfl rfl (K (-1) m4 w h1 T2 F6 W9)
        · have V35 := rf_V.mk e11 ez26 e29 (Int32.not_lt.mp c34) B33 (by decide)
          have V35 := V35.back F6 (by decide)
          have B36 : sf_B 0 2 a1 := sf_leL (Int32.not_lt.mp c34) B33 B30
          have B37 : sf_B 0 2 z28 := sf_leR (Int32.not_lt.mp c34) B33 B30
          refine pm_R_op pm_M174 (pc' := 11) (st' := [.int 1]) rfl rfl rfl ?_
          refine pm_R_br pm_M174 (pc' := 15) rfl rfl ?_
          refine pm_R_ret pm_M174 (r := some (.int 1)) rfl rfl ?_
          show pm_R _ 177 13 [.ref 41, .int 1, .int a1] [.int 1] _ _
          refine pm_R_ret pm_M177 (r := some (.int 1)) rfl rfl ?_
          show pm_R _ 200 15 [.ref 41, .int a0, .int a1] [.int 1] _ _
          refine pm_R_br pm_M200 (pc' := 20) (st' := []) rfl rfl ?_
          refine pm_R_lo pm_M200 (pc' := 21) rfl rfl rfl ?_
          refine pm_R_lo pm_M200 (pc' := 22) rfl rfl rfl ?_
          refine pm_R_lo pm_M200 (pc' := 23) rfl rfl rfl ?_
          refine pm_R_cv pm_M200 (pc' := 26) (a := 41) (ra := [.int a1, .int a0]) (rest := []) (ls' := [.ref 41, .int a0, .int a1, pm_no]) rfl rfl (Or.inl rfl) pm_M201 T2.2.1 rfl (by decide) (Nat.lt_of_lt_of_le (by decide) T2.1) rfl rfl (Nat.le_of_ble_eq_true rfl) rfl rfl ?_
          refine rf_c201 (d := d + 3) T2 B23 B36 (V35.F F6 (by decide)) (fun m40 w41 h42 T43 F44 W45 X46 B47 => ?_)
          have F48 := F6.trans F44 (by decide)
          have W49 : rf_W [0, 23, 24, 26] m m40 := W9.trans W45 (by decide)
          show pm_R _ 200 26 [.ref 41, .int a0, .int a1] [] _ _
          refine pm_R_op pm_M200 (pc' := 27) (st' := [.int 1]) rfl rfl rfl ?_
          refine pm_R_ret pm_M200 (r := some (.int 1)) rfl rfl ?_
          show pm_R _ 250 6 [.ref 41, .int a0, .int a1, .int a2] [.int 1] _ _
          refine pm_R_br pm_M250 (pc' := 9) (st' := []) rfl rfl ?_
          refine pm_R_lo pm_M250 (pc' := 10) rfl rfl rfl ?_
          refine pm_R_op pm_M250 (pc' := 11) (st' := [.int 0, .int a2]) rfl rfl rfl ?_
          refine pm_R_lo pm_M250 (pc' := 12) rfl rfl rfl ?_
          refine rf_R_get pm_M250 T43 (pc' := 15) (v := .int (m40 24)) rfl rfl rfl rfl ?_
          refine pm_R_op pm_M250 (pc' := 16) (st' := [.int 1, .int (m40 24), .int 0, .int a2]) rfl rfl rfl ?_
          refine sf_R_isub pm_M250 (pc' := 17) rfl rfl B47 sf_k1 (by decide) (by decide) (fun z50 e51 B52 => ?_)
          refine pm_R_cs pm_M250 (pc' := 20) (ra := [.int z50, .int 0, .int a2]) (rest := []) (ls' := [.int a2, .int 0, .int z50]) rfl rfl (Or.inl rfl) pm_M174 rfl rfl (Nat.le_of_ble_eq_true rfl) rfl rfl ?_
          refine pm_R_lo pm_M174 (pc' := 1) rfl rfl rfl ?_
          refine pm_R_lo pm_M174 (pc' := 2) rfl rfl rfl ?_
          refine pm_R_icmp pm_M174 (t := 14) (pc' := 5) rfl rfl rfl (fun c53 => ?_) (fun c53 => ?_)
          · have B54 : sf_B (-2147483648) (-1) a2 := sf_ltL c53 (sf_any a2) sf_k0
            refine pm_R_op pm_M174 (pc' := 15) (st' := [.int 0]) rfl rfl rfl ?_
            refine pm_R_ret pm_M174 (r := some (.int 0)) rfl rfl ?_
            show pm_R _ 250 20 [.ref 41, .int a0, .int a1, .int a2] [.int 0] _ _
            refine pm_R_br pm_M250 (pc' := 27) (st' := []) rfl rfl ?_
            refine pm_R_op pm_M250 (pc' := 28) (st' := [.int 0]) rfl rfl rfl ?_
            refine pm_R_ret pm_M250 (r := some (.int 0)) rfl rfl ?_
            show pm_R _ 249 12 [.ref 41, .int a0, .int a1, .int a2, pm_no, pm_no] [.int 0] _ _
            refine pm_R_br pm_M249 (pc' := 15) (st' := []) rfl rfl ?_
            refine pm_R_op pm_M249 (pc' := 16) (st' := [.int (-1)]) rfl rfl rfl ?_
            exact pm_R_ret pm_M249 (r := some (.int (-1))) rfl rfl (K (-1) m40 w41 h42 T43 F48 W49)
          · have B55 : sf_B 0 2147483647 a2 := sf_leR (Int32.not_lt.mp c53) sf_k0 (sf_any a2)
            refine pm_R_lo pm_M174 (pc' := 6) rfl rfl rfl ?_
            refine pm_R_lo pm_M174 (pc' := 7) rfl rfl rfl ?_
            refine pm_R_icmp pm_M174 (t := 14) (pc' := 10) rfl rfl rfl (fun c56 => ?_) (fun c56 => ?_)
            · have B57 : sf_B 1 2147483647 a2 := sf_ltR c56 B52 B55
              refine pm_R_op pm_M174 (pc' := 15) (st' := [.int 0]) rfl rfl rfl ?_
              refine pm_R_ret pm_M174 (r := some (.int 0)) rfl rfl ?_
              show pm_R _ 250 20 [.ref 41, .int a0, .int a1, .int a2] [.int 0] _ _
              refine pm_R_br pm_M250 (pc' := 27) (st' := []) rfl rfl ?_
              refine pm_R_op pm_M250 (pc' := 28) (st' := [.int 0]) rfl rfl rfl ?_
              refine pm_R_ret pm_M250 (r := some (.int 0)) rfl rfl ?_
              show pm_R _ 249 12 [.ref 41, .int a0, .int a1, .int a2, pm_no, pm_no] [.int 0] _ _
              refine pm_R_br pm_M249 (pc' := 15) (st' := []) rfl rfl ?_
              refine pm_R_op pm_M249 (pc' := 16) (st' := [.int (-1)]) rfl rfl rfl ?_
              exact pm_R_ret pm_M249 (r := some (.int (-1))) rfl rfl (K (-1) m40 w41 h42 T43 F48 W49)
            · have B58 : sf_B 0 11 a2 := sf_leL (Int32.not_lt.mp c56) B55 B52
              refine pm_R_op pm_M174 (pc' := 11) (st' := [.int 1]) rfl rfl rfl ?_
              refine pm_R_br pm_M174 (pc' := 15) rfl rfl ?_
              refine pm_R_ret pm_M174 (r := some (.int 1)) rfl rfl ?_
              show pm_R _ 250 20 [.ref 41, .int a0, .int a1, .int a2] [.int 1] _ _
              refine pm_R_br pm_M250 (pc' := 23) (st' := []) rfl rfl ?_
              refine pm_R_op pm_M250 (pc' := 24) (st' := [.int 1]) rfl rfl rfl ?_
              refine pm_R_br pm_M250 (pc' := 28) rfl rfl ?_
              refine pm_R_ret pm_M250 (r := some (.int 1)) rfl rfl ?_
              show pm_R _ 249 12 [.ref 41, .int a0, .int a1, .int a2, pm_no, pm_no] [.int 1] _ _
              refine pm_R_br pm_M249 (pc' := 17) (st' := []) rfl rfl ?_
              refine pm_R_op pm_M249 (pc' := 18) (st' := [.int 0]) rfl rfl rfl ?_
              refine pm_R_lo pm_M249 (pc' := 20) (ls' := [.ref 41, .int a0, .int a1, .int a2, .int 0, pm_no]) (st' := []) rfl rfl rfl ?_
              refine pm_R_op pm_M249 (pc' := 21) (st' := [.int 0]) rfl rfl rfl ?_
              refine pm_R_lo pm_M249 (pc' := 23) (ls' := [.ref 41, .int a0, .int a1, .int a2, .int 0, .int 0]) (st' := []) rfl rfl rfl ?_
              have L_318 : ∀ (N : Nat) (h_318 : pm_H) (m_318 : Nat → Int32) (w_318 : Int64) (x4_318 : Int32) (x5_318 : Int32), rf_T m_318 w_318 h_318 → rf_G [41, 53, 54] h h_318 → rf_W [] m40 m_318 → sf_B (-2147483648) 2147483647 x4_318 → sf_B 0 10 x5_318 → (10 - x5_318.toInt).toNat = N → pm_R (d + 6) 249 23 [.ref 41, .int a0, .int a1, .int a2, .int x4_318, .int x5_318] [] h_318 Q := by
                intro N
                induction N using Nat.strongRecOn with
                | ind N ih_318 =>
                  intro h_318 m_318 w_318 x4_318 x5_318 T_318 F_318 W_318 Bx4_318 Bx5_318 hN_318
                  have B321 : sf_B 1 12 (m_318 24) := by rw [W_318 24 (by decide)]; exact B47
                  have W322 : rf_W [0, 23, 24, 26] m m_318 := W49.trans W_318 (by decide)
                  refine pm_R_lo pm_M249 (pc' := 25) rfl rfl rfl ?_
                  refine pm_R_op pm_M249 (pc' := 27) (st' := [.int 10, .int x5_318]) rfl rfl rfl ?_
                  refine pm_R_icmp pm_M249 (t := 68) (pc' := 30) rfl rfl rfl (fun c323 => ?_) (fun c323 => ?_)
                  · have B324 : sf_B 10 10 x5_318 := sf_leR c323 sf_k10 Bx5_318
                    refine pm_R_lo pm_M249 (pc' := 70) rfl rfl rfl ?_
                    exact pm_R_ret pm_M249 (r := some (.int x4_318)) rfl (pm_ret_i _) (K x4_318 m_318 w_318 h_318 T_318 F_318 W322)
                  · have B325 : sf_B 0 9 x5_318 := sf_ltL (Int32.not_le.mp c323) Bx5_318 sf_k10
                    refine pm_R_lo pm_M249 (pc' := 31) rfl rfl rfl ?_
                    refine rf_R_get pm_M249 T_318 (pc' := 34) (v := .ref 53) rfl rfl rfl rfl ?_
                    refine pm_R_lo pm_M249 (pc' := 35) rfl rfl rfl ?_
                    refine pm_R_op pm_M249 (pc' := 36) (st' := [.int 1, .int a2, .ref 53]) rfl rfl rfl ?_
                    refine pm_R_lo pm_M249 (pc' := 38) rfl rfl rfl ?_
                    refine sf_R_iany pm_M249 (pc' := 39) (st := [.int a2, .ref 53]) rfl rfl rfl (fun z329 => ?_)
                    obtain ⟨f330, e331⟩ := T_318.2.2.2.1 53 (by decide) (by decide)
                    refine rf_R_ist pm_M249 T_318 (pc' := 40) rfl e331 (by decide) (by decide) (sf_in B58 (by decide) (by decide)) ⟨_, rfl⟩ rfl (fun h333 T334 F335 e336 => ?_)
                    have F337 := F_318.trans F335 (by decide)
                    refine pm_R_lo pm_M249 (pc' := 42) rfl rfl rfl ?_
                    refine pm_R_lo pm_M249 (pc' := 43) rfl rfl rfl ?_
                    refine pm_R_cv pm_M249 (pc' := 46) (a := 41) (ra := []) (rest := [.int x4_318]) (ls' := [.ref 41]) rfl rfl (Or.inl rfl) pm_M215 T334.2.1 rfl (by decide) (Nat.lt_of_lt_of_le (by decide) T334.1) rfl rfl (Nat.le_of_ble_eq_true rfl) rfl rfl ?_
                    refine rf_c215 (d := d + 0) T334 B321 (fun r338 m340 w341 h342 T343 F344 W345 => ?_)
                    have F346 := F337.trans F344 (by decide)
                    have B347 : sf_B 1 12 (m340 24) := by rw [W345 24 (by decide)]; exact B321
                    have W348 : rf_W [0, 23, 24, 26] m m340 := W322.trans W345 (by decide)
                    have W349 : rf_W [] m40 m340 := W_318.trans W345 (by decide)
                    show pm_R _ 249 46 [.ref 41, .int a0, .int a1, .int a2, .int x4_318, .int x5_318] [.long r338, .int x4_318] _ _
                    refine pm_R_op pm_M249 (pc' := 47) (st' := [.long 0, .long r338, .int x4_318]) rfl rfl rfl ?_
                    refine sf_R_lcmp pm_M249 (pc' := 48) rfl rfl (fun z350 e351 => ?_)
                    refine pm_R_ifc pm_M249 (t := 58) (pc' := 51) rfl rfl rfl (fun c352 => ?_) (fun c352 => ?_)
                    · have B353 : sf_B 0 0 z350 := sf_eqL c352 sf_k0
                      refine pm_R_op pm_M249 (pc' := 59) (st' := [.int 0, .int x4_318]) rfl rfl rfl ?_
                      refine sf_R_iany pm_M249 (pc' := 60) (st := []) rfl rfl rfl (fun z357 => ?_)
                      refine pm_R_lo pm_M249 (pc' := 62) (ls' := [.ref 41, .int a0, .int a1, .int a2, .int z357, .int x5_318]) (st' := []) rfl rfl rfl ?_
                      refine sf_R_iinc pm_M249 (pc' := 65) (ls' := fun z => [.ref 41, .int a0, .int a1, .int a2, .int z357, .int z]) rfl B325 rfl (by decide) (by decide) (by decide) (fun _ => rfl) rfl (fun z358 e359 B360 => ?_)
                      show pm_R _ 249 65 [.ref 41, .int a0, .int a1, .int a2, .int z357, .int z358] [] _ _
                      refine pm_R_br pm_M249 (pc' := 23) rfl rfl ?_
                      exact ih_318 _ (sf_up hN_318 e359 B325 (by decide) (by decide)) h342 m340 w341 z357 z358 T343 F346 W349 (sf_any z357) (sf_weak B360 (by decide) (by decide)) rfl
                    · have k361 := sf_lneC e351 c352
                      refine pm_R_op pm_M249 (pc' := 52) (st' := [.int 1, .int x4_318]) rfl rfl rfl ?_
                      refine pm_R_lo pm_M249 (pc' := 54) rfl rfl rfl ?_
                      refine sf_R_iany pm_M249 (pc' := 55) (st := [.int x4_318]) rfl rfl rfl (fun z365 => ?_)
                      refine pm_R_br pm_M249 (pc' := 59) rfl rfl ?_
                      refine sf_R_iany pm_M249 (pc' := 60) (st := []) rfl rfl rfl (fun z369 => ?_)
                      refine pm_R_lo pm_M249 (pc' := 62) (ls' := [.ref 41, .int a0, .int a1, .int a2, .int z369, .int x5_318]) (st' := []) rfl rfl rfl ?_
                      refine sf_R_iinc pm_M249 (pc' := 65) (ls' := fun z => [.ref 41, .int a0, .int a1, .int a2, .int z369, .int z]) rfl B325 rfl (by decide) (by decide) (by decide) (fun _ => rfl) rfl (fun z370 e371 B372 => ?_)
                      show pm_R _ 249 65 [.ref 41, .int a0, .int a1, .int a2, .int z369, .int z370] [] _ _
                      refine pm_R_br pm_M249 (pc' := 23) rfl rfl ?_
                      exact ih_318 _ (sf_up hN_318 e371 B325 (by decide) (by decide)) h342 m340 w341 z369 z370 T343 F346 W349 (sf_any z369) (sf_weak B372 (by decide) (by decide)) rfl
              exact L_318 _ h42 m40 w41 0 0 T43 F48 (rf_W.refl _ _) (sf_weak sf_k0 (by decide) (by decide)) (sf_weak sf_k0 (by decide) (by decide)) rfl

set_option maxRecDepth 100000 in
set_option maxHeartbeats 4000000 in
/-- SilentTableModel.doubt -/
theorem rf_c252 {d : Nat} {m : Nat → Int32} {w : Int64} {h : pm_H} {Q : Option Value → pm_H → Prop} {a0 : Int32} {a1 : Int32} {a2 : Int32} (T : rf_T m w h)  (K : ∀ (r : Int32) (m' : Nat → Int32) (w' : Int64) (h' : pm_H), rf_T m' w' h' → rf_G [41, 53, 54] h h' → rf_W [0, 23, 24, 26, 27] m m' → Q (some (.int r)) h') : pm_R (d + 6) 252 0 [.ref 41, .int a0, .int a1, .int a2, pm_no, pm_no] [] h Q := by
  refine pm_R_lo pm_M252 (pc' := 1) rfl rfl rfl ?_
  refine pm_R_op pm_M252 (pc' := 2) (st' := [.int 0, .ref 41]) rfl rfl rfl ?_
  refine rf_R_put pm_M252 T (pc' := 5) rfl rfl rfl (by decide) rfl rfl sf_k0 rfl rfl (fun h1 m4 em5 T2 F3 => ?_)
  have F6 := (rf_G.refl [41, 53, 54] h).trans F3 (by decide)
  have B7 : sf_B 0 0 (m4 0) := by rw [em5]; exact sf_k0
  have W9 : rf_W [0, 23, 24, 26, 27] m m4 := by rw [em5]; exact (rf_W.refl [0, 23, 24, 26, 27] m).put (by decide)
  refine pm_R_lo pm_M252 (pc' := 6) rfl rfl rfl ?_
  refine pm_R_lo pm_M252 (pc' := 7) rfl rfl rfl ?_
  refine pm_R_lo pm_M252 (pc' := 8) rfl rfl rfl ?_
  refine pm_R_lo pm_M252 (pc' := 9) rfl rfl rfl ?_
  refine pm_R_cv pm_M252 (pc' := 12) (a := 41) (ra := [.int a2, .int a1, .int a0]) (rest := []) (ls' := [.ref 41, .int a0, .int a1, .int a2]) rfl rfl (Or.inl rfl) pm_M250 T2.2.1 rfl (by decide) (Nat.lt_of_lt_of_le (by decide) T2.1) rfl rfl (Nat.le_of_ble_eq_true rfl) rfl rfl ?_
  refine pm_R_lo pm_M250 (pc' := 1) rfl rfl rfl ?_
  refine pm_R_lo pm_M250 (pc' := 2) rfl rfl rfl ?_
  refine pm_R_lo pm_M250 (pc' := 3) rfl rfl rfl ?_
  refine pm_R_cv pm_M250 (pc' := 6) (a := 41) (ra := [.int a1, .int a0]) (rest := []) (ls' := [.ref 41, .int a0, .int a1]) rfl rfl (Or.inl rfl) pm_M200 T2.2.1 rfl (by decide) (Nat.lt_of_lt_of_le (by decide) T2.1) rfl rfl (Nat.le_of_ble_eq_true rfl) rfl rfl ?_
  refine pm_R_lo pm_M200 (pc' := 1) rfl rfl rfl ?_
  refine pm_R_op pm_M200 (pc' := 2) (st' := [.int 0, .ref 41]) rfl rfl rfl ?_
  refine pm_R_lo pm_M200 (pc' := 3) rfl rfl rfl ?_
  refine pm_R_cv pm_M200 (pc' := 6) (a := 41) (ra := [.int a0, .int 0]) (rest := []) (ls' := [.ref 41, .int 0, .int a0]) rfl rfl (Or.inl rfl) pm_M177 T2.2.1 rfl (by decide) (Nat.lt_of_lt_of_le (by decide) T2.1) rfl rfl (Nat.le_of_ble_eq_true rfl) rfl rfl ?_
  refine pm_R_lo pm_M177 (pc' := 1) rfl rfl rfl ?_
  refine pm_R_op pm_M177 (pc' := 2) (st' := [.int 0, .int a0]) rfl rfl rfl ?_
  refine pm_R_lo pm_M177 (pc' := 3) rfl rfl rfl ?_
  refine rf_R_get pm_M177 T2 (pc' := 6) (v := .ref 46) rfl rfl rfl rfl ?_
  refine pm_R_lo pm_M177 (pc' := 7) rfl rfl rfl ?_
  obtain ⟨f10, e11, b12⟩ := T2.2.2.2.1 46 (by decide) (by decide)
  refine rf_R_ild pm_M177 T2 (pc' := 8) rfl e11 (by decide) rfl rfl (fun z13 ez14 => ?_)
  have B15 : sf_B 0 2 z13 := ez14 ▸ (b12 0)
  refine pm_R_op pm_M177 (pc' := 9) (st' := [.int 1, .int z13, .int 0, .int a0]) rfl rfl rfl ?_
  refine sf_R_isub pm_M177 (pc' := 10) rfl rfl B15 sf_k1 (by decide) (by decide) (fun z16 e17 B18 => ?_)
  refine pm_R_cs pm_M177 (pc' := 13) (ra := [.int z16, .int 0, .int a0]) (rest := []) (ls' := [.int a0, .int 0, .int z16]) rfl rfl (Or.inl rfl) pm_M174 rfl rfl (Nat.le_of_ble_eq_true rfl) rfl rfl ?_
  refine pm_R_lo pm_M174 (pc' := 1) rfl rfl rfl ?_
  refine pm_R_lo pm_M174 (pc' := 2) rfl rfl rfl ?_
  refine pm_R_icmp pm_M174 (t := 14) (pc' := 5) rfl rfl rfl (fun c19 => ?_) (fun c19 => ?_)
  · have B20 : sf_B (-2147483648) (-1) a0 := sf_ltL c19 (sf_any a0) sf_k0
    refine pm_R_op pm_M174 (pc' := 15) (st' := [.int 0]) rfl rfl rfl ?_
    refine pm_R_ret pm_M174 (r := some (.int 0)) rfl rfl ?_
    show pm_R _ 177 13 [.ref 41, .int 0, .int a0] [.int 0] _ _
    refine pm_R_ret pm_M177 (r := some (.int 0)) rfl rfl ?_
    show pm_R _ 200 6 [.ref 41, .int a0, .int a1] [.int 0] _ _
    refine pm_R_br pm_M200 (pc' := 18) (st' := []) rfl rfl ?_
    refine pm_R_op pm_M200 (pc' := 19) (st' := [.int 0]) rfl rfl rfl ?_
    refine pm_R_ret pm_M200 (r := some (.int 0)) rfl rfl ?_
    show pm_R _ 250 6 [.ref 41, .int a0, .int a1, .int a2] [.int 0] _ _
    refine pm_R_br pm_M250 (pc' := 27) (st' := []) rfl rfl ?_
    refine pm_R_op pm_M250 (pc' := 28) (st' := [.int 0]) rfl rfl rfl ?_
    refine pm_R_ret pm_M250 (r := some (.int 0)) rfl rfl ?_
    show pm_R _ 252 12 [.ref 41, .int a0, .int a1, .int a2, pm_no, pm_no] [.int 0] _ _
    refine pm_R_br pm_M252 (pc' := 15) (st' := []) rfl rfl ?_
    refine pm_R_op pm_M252 (pc' := 16) (st' := [.int (-1)]) rfl rfl rfl ?_
    exact pm_R_ret pm_M252 (r := some (.int (-1))) rfl rfl (K (-1) m4 w h1 T2 F6 W9)
  · have B21 : sf_B 0 2147483647 a0 := sf_leR (Int32.not_lt.mp c19) sf_k0 (sf_any a0)
    refine pm_R_lo pm_M174 (pc' := 6) rfl rfl rfl ?_
    refine pm_R_lo pm_M174 (pc' := 7) rfl rfl rfl ?_
    refine pm_R_icmp pm_M174 (t := 14) (pc' := 10) rfl rfl rfl (fun c22 => ?_) (fun c22 => ?_)
    · skip
      refine pm_R_op pm_M174 (pc' := 15) (st' := [.int 0]) rfl rfl rfl ?_
      refine pm_R_ret pm_M174 (r := some (.int 0)) rfl rfl ?_
      show pm_R _ 177 13 [.ref 41, .int 0, .int a0] [.int 0] _ _
      refine pm_R_ret pm_M177 (r := some (.int 0)) rfl rfl ?_
      show pm_R _ 200 6 [.ref 41, .int a0, .int a1] [.int 0] _ _
      refine pm_R_br pm_M200 (pc' := 18) (st' := []) rfl rfl ?_
      refine pm_R_op pm_M200 (pc' := 19) (st' := [.int 0]) rfl rfl rfl ?_
      refine pm_R_ret pm_M200 (r := some (.int 0)) rfl rfl ?_
      show pm_R _ 250 6 [.ref 41, .int a0, .int a1, .int a2] [.int 0] _ _
      refine pm_R_br pm_M250 (pc' := 27) (st' := []) rfl rfl ?_
      refine pm_R_op pm_M250 (pc' := 28) (st' := [.int 0]) rfl rfl rfl ?_
      refine pm_R_ret pm_M250 (r := some (.int 0)) rfl rfl ?_
      show pm_R _ 252 12 [.ref 41, .int a0, .int a1, .int a2, pm_no, pm_no] [.int 0] _ _
      refine pm_R_br pm_M252 (pc' := 15) (st' := []) rfl rfl ?_
      refine pm_R_op pm_M252 (pc' := 16) (st' := [.int (-1)]) rfl rfl rfl ?_
      exact pm_R_ret pm_M252 (r := some (.int (-1))) rfl rfl (K (-1) m4 w h1 T2 F6 W9)
    · have B23 : sf_B 0 1 a0 := sf_leL (Int32.not_lt.mp c22) B21 B18
      have B24 : sf_B 0 1 z16 := sf_leR (Int32.not_lt.mp c22) B21 B18
      refine pm_R_op pm_M174 (pc' := 11) (st' := [.int 1]) rfl rfl rfl ?_
      refine pm_R_br pm_M174 (pc' := 15) rfl rfl ?_
      refine pm_R_ret pm_M174 (r := some (.int 1)) rfl rfl ?_
      show pm_R _ 177 13 [.ref 41, .int 0, .int a0] [.int 1] _ _
      refine pm_R_ret pm_M177 (r := some (.int 1)) rfl rfl ?_
      show pm_R _ 200 6 [.ref 41, .int a0, .int a1] [.int 1] _ _
      refine pm_R_br pm_M200 (pc' := 9) (st' := []) rfl rfl ?_
      refine pm_R_lo pm_M200 (pc' := 10) rfl rfl rfl ?_
      refine pm_R_op pm_M200 (pc' := 11) (st' := [.int 1, .ref 41]) rfl rfl rfl ?_
      refine pm_R_lo pm_M200 (pc' := 12) rfl rfl rfl ?_
      refine pm_R_cv pm_M200 (pc' := 15) (a := 41) (ra := [.int a1, .int 1]) (rest := []) (ls' := [.ref 41, .int 1, .int a1]) rfl rfl (Or.inl rfl) pm_M177 T2.2.1 rfl (by decide) (Nat.lt_of_lt_of_le (by decide) T2.1) rfl rfl (Nat.le_of_ble_eq_true rfl) rfl rfl ?_
      refine pm_R_lo pm_M177 (pc' := 1) rfl rfl rfl ?_
      refine pm_R_op pm_M177 (pc' := 2) (st' := [.int 0, .int a1]) rfl rfl rfl ?_
      refine pm_R_lo pm_M177 (pc' := 3) rfl rfl rfl ?_
      refine rf_R_get pm_M177 T2 (pc' := 6) (v := .ref 46) rfl rfl rfl rfl ?_
      refine pm_R_lo pm_M177 (pc' := 7) rfl rfl rfl ?_
      refine rf_R_ild pm_M177 T2 (pc' := 8) rfl e11 (by decide) rfl rfl (fun z25 ez26 => ?_)
      have B27 : sf_B 0 3 z25 := ez26 ▸ (b12 1)
      refine pm_R_op pm_M177 (pc' := 9) (st' := [.int 1, .int z25, .int 0, .int a1]) rfl rfl rfl ?_
      refine sf_R_isub pm_M177 (pc' := 10) rfl rfl B27 sf_k1 (by decide) (by decide) (fun z28 e29 B30 => ?_)
      refine pm_R_cs pm_M177 (pc' := 13) (ra := [.int z28, .int 0, .int a1]) (rest := []) (ls' := [.int a1, .int 0, .int z28]) rfl rfl (Or.inl rfl) pm_M174 rfl rfl (Nat.le_of_ble_eq_true rfl) rfl rfl ?_
      refine pm_R_lo pm_M174 (pc' := 1) rfl rfl rfl ?_
      refine pm_R_lo pm_M174 (pc' := 2) rfl rfl rfl ?_
      refine pm_R_icmp pm_M174 (t := 14) (pc' := 5) rfl rfl rfl (fun c31 => ?_) (fun c31 => ?_)
      · have B32 : sf_B (-2147483648) (-1) a1 := sf_ltL c31 (sf_any a1) sf_k0
        refine pm_R_op pm_M174 (pc' := 15) (st' := [.int 0]) rfl rfl rfl ?_
        refine pm_R_ret pm_M174 (r := some (.int 0)) rfl rfl ?_
        show pm_R _ 177 13 [.ref 41, .int 1, .int a1] [.int 0] _ _
        refine pm_R_ret pm_M177 (r := some (.int 0)) rfl rfl ?_
        show pm_R _ 200 15 [.ref 41, .int a0, .int a1] [.int 0] _ _
        refine pm_R_br pm_M200 (pc' := 18) (st' := []) rfl rfl ?_
        refine pm_R_op pm_M200 (pc' := 19) (st' := [.int 0]) rfl rfl rfl ?_
        refine pm_R_ret pm_M200 (r := some (.int 0)) rfl rfl ?_
        show pm_R _ 250 6 [.ref 41, .int a0, .int a1, .int a2] [.int 0] _ _
        refine pm_R_br pm_M250 (pc' := 27) (st' := []) rfl rfl ?_
        refine pm_R_op pm_M250 (pc' := 28) (st' := [.int 0]) rfl rfl rfl ?_
        refine pm_R_ret pm_M250 (r := some (.int 0)) rfl rfl ?_
        show pm_R _ 252 12 [.ref 41, .int a0, .int a1, .int a2, pm_no, pm_no] [.int 0] _ _
        refine pm_R_br pm_M252 (pc' := 15) (st' := []) rfl rfl ?_
        refine pm_R_op pm_M252 (pc' := 16) (st' := [.int (-1)]) rfl rfl rfl ?_
        exact pm_R_ret pm_M252 (r := some (.int (-1))) rfl rfl (K (-1) m4 w h1 T2 F6 W9)
      · have B33 : sf_B 0 2147483647 a1 := sf_leR (Int32.not_lt.mp c31) sf_k0 (sf_any a1)
        refine pm_R_lo pm_M174 (pc' := 6) rfl rfl rfl ?_
        refine pm_R_lo pm_M174 (pc' := 7) rfl rfl rfl ?_
        refine pm_R_icmp pm_M174 (t := 14) (pc' := 10) rfl rfl rfl (fun c34 => ?_) (fun c34 => ?_)
        · skip
          refine pm_R_op pm_M174 (pc' := 15) (st' := [.int 0]) rfl rfl rfl ?_
          refine pm_R_ret pm_M174 (r := some (.int 0)) rfl rfl ?_
          show pm_R _ 177 13 [.ref 41, .int 1, .int a1] [.int 0] _ _
          refine pm_R_ret pm_M177 (r := some (.int 0)) rfl rfl ?_
          show pm_R _ 200 15 [.ref 41, .int a0, .int a1] [.int 0] _ _
          refine pm_R_br pm_M200 (pc' := 18) (st' := []) rfl rfl ?_
          refine pm_R_op pm_M200 (pc' := 19) (st' := [.int 0]) rfl rfl rfl ?_
          refine pm_R_ret pm_M200 (r := some (.int 0)) rfl rfl ?_
          show pm_R _ 250 6 [.ref 41, .int a0, .int a1, .int a2] [.int 0] _ _
          refine pm_R_br pm_M250 (pc' := 27) (st' := []) rfl rfl ?_
          refine pm_R_op pm_M250 (pc' := 28) (st' := [.int 0]) rfl rfl rfl ?_
          refine pm_R_ret pm_M250 (r := some (.int 0)) rfl rfl ?_
          show pm_R _ 252 12 [.ref 41, .int a0, .int a1, .int a2, pm_no, pm_no] [.int 0] _ _
          refine pm_R_br pm_M252 (pc' := 15) (st' := []) rfl rfl ?_
          refine pm_R_op pm_M252 (pc' := 16) (st' := [.int (-1)]) rfl rfl rfl ?_
          exact pm_R_ret pm_M252 (r := some (.int (-1))) rfl rfl (K (-1) m4 w h1 T2 F6 W9)
        · have V35 := rf_V.mk e11 ez26 e29 (Int32.not_lt.mp c34) B33 (by decide)
          have V35 := V35.back F6 (by decide)
          have B36 : sf_B 0 2 a1 := sf_leL (Int32.not_lt.mp c34) B33 B30
          have B37 : sf_B 0 2 z28 := sf_leR (Int32.not_lt.mp c34) B33 B30
          refine pm_R_op pm_M174 (pc' := 11) (st' := [.int 1]) rfl rfl rfl ?_
          refine pm_R_br pm_M174 (pc' := 15) rfl rfl ?_
          refine pm_R_ret pm_M174 (r := some (.int 1)) rfl rfl ?_
          show pm_R _ 177 13 [.ref 41, .int 1, .int a1] [.int 1] _ _
          refine pm_R_ret pm_M177 (r := some (.int 1)) rfl rfl ?_
          show pm_R _ 200 15 [.ref 41, .int a0, .int a1] [.int 1] _ _
          refine pm_R_br pm_M200 (pc' := 20) (st' := []) rfl rfl ?_
          refine pm_R_lo pm_M200 (pc' := 21) rfl rfl rfl ?_
          refine pm_R_lo pm_M200 (pc' := 22) rfl rfl rfl ?_
          refine pm_R_lo pm_M200 (pc' := 23) rfl rfl rfl ?_
          refine pm_R_cv pm_M200 (pc' := 26) (a := 41) (ra := [.int a1, .int a0]) (rest := []) (ls' := [.ref 41, .int a0, .int a1, pm_no]) rfl rfl (Or.inl rfl) pm_M201 T2.2.1 rfl (by decide) (Nat.lt_of_lt_of_le (by decide) T2.1) rfl rfl (Nat.le_of_ble_eq_true rfl) rfl rfl ?_
          refine rf_c201 (d := d + 3) T2 B23 B36 (V35.F F6 (by decide)) (fun m40 w41 h42 T43 F44 W45 X46 B47 => ?_)
          have F48 := F6.trans F44 (by decide)
          have W49 : rf_W [0, 23, 24, 26, 27] m m40 := W9.trans W45 (by decide)
          show pm_R _ 200 26 [.ref 41, .int a0, .int a1] [] _ _
          refine pm_R_op pm_M200 (pc' := 27) (st' := [.int 1]) rfl rfl rfl ?_
          refine pm_R_ret pm_M200 (r := some (.int 1)) rfl rfl ?_
          show pm_R _ 250 6 [.ref 41, .int a0, .int a1, .int a2] [.int 1] _ _
          refine pm_R_br pm_M250 (pc' := 9) (st' := []) rfl rfl ?_
          refine pm_R_lo pm_M250 (pc' := 10) rfl rfl rfl ?_
          refine pm_R_op pm_M250 (pc' := 11) (st' := [.int 0, .int a2]) rfl rfl rfl ?_
          refine pm_R_lo pm_M250 (pc' := 12) rfl rfl rfl ?_
          refine rf_R_get pm_M250 T43 (pc' := 15) (v := .int (m40 24)) rfl rfl rfl rfl ?_
          refine pm_R_op pm_M250 (pc' := 16) (st' := [.int 1, .int (m40 24), .int 0, .int a2]) rfl rfl rfl ?_
          refine sf_R_isub pm_M250 (pc' := 17) rfl rfl B47 sf_k1 (by decide) (by decide) (fun z50 e51 B52 => ?_)
          refine pm_R_cs pm_M250 (pc' := 20) (ra := [.int z50, .int 0, .int a2]) (rest := []) (ls' := [.int a2, .int 0, .int z50]) rfl rfl (Or.inl rfl) pm_M174 rfl rfl (Nat.le_of_ble_eq_true rfl) rfl rfl ?_
          refine pm_R_lo pm_M174 (pc' := 1) rfl rfl rfl ?_
          refine pm_R_lo pm_M174 (pc' := 2) rfl rfl rfl ?_
          refine pm_R_icmp pm_M174 (t := 14) (pc' := 5) rfl rfl rfl (fun c53 => ?_) (fun c53 => ?_)
          · have B54 : sf_B (-2147483648) (-1) a2 := sf_ltL c53 (sf_any a2) sf_k0
            refine pm_R_op pm_M174 (pc' := 15) (st' := [.int 0]) rfl rfl rfl ?_
            refine pm_R_ret pm_M174 (r := some (.int 0)) rfl rfl ?_
            show pm_R _ 250 20 [.ref 41, .int a0, .int a1, .int a2] [.int 0] _ _
            refine pm_R_br pm_M250 (pc' := 27) (st' := []) rfl rfl ?_
            refine pm_R_op pm_M250 (pc' := 28) (st' := [.int 0]) rfl rfl rfl ?_
            refine pm_R_ret pm_M250 (r := some (.int 0)) rfl rfl ?_
            show pm_R _ 252 12 [.ref 41, .int a0, .int a1, .int a2, pm_no, pm_no] [.int 0] _ _
            refine pm_R_br pm_M252 (pc' := 15) (st' := []) rfl rfl ?_
            refine pm_R_op pm_M252 (pc' := 16) (st' := [.int (-1)]) rfl rfl rfl ?_
            exact pm_R_ret pm_M252 (r := some (.int (-1))) rfl rfl (K (-1) m40 w41 h42 T43 F48 W49)
          · have B55 : sf_B 0 2147483647 a2 := sf_leR (Int32.not_lt.mp c53) sf_k0 (sf_any a2)
            refine pm_R_lo pm_M174 (pc' := 6) rfl rfl rfl ?_
            refine pm_R_lo pm_M174 (pc' := 7) rfl rfl rfl ?_
            refine pm_R_icmp pm_M174 (t := 14) (pc' := 10) rfl rfl rfl (fun c56 => ?_) (fun c56 => ?_)
            · have B57 : sf_B 1 2147483647 a2 := sf_ltR c56 B52 B55
              refine pm_R_op pm_M174 (pc' := 15) (st' := [.int 0]) rfl rfl rfl ?_
              refine pm_R_ret pm_M174 (r := some (.int 0)) rfl rfl ?_
              show pm_R _ 250 20 [.ref 41, .int a0, .int a1, .int a2] [.int 0] _ _
              refine pm_R_br pm_M250 (pc' := 27) (st' := []) rfl rfl ?_
              refine pm_R_op pm_M250 (pc' := 28) (st' := [.int 0]) rfl rfl rfl ?_
              refine pm_R_ret pm_M250 (r := some (.int 0)) rfl rfl ?_
              show pm_R _ 252 12 [.ref 41, .int a0, .int a1, .int a2, pm_no, pm_no] [.int 0] _ _
              refine pm_R_br pm_M252 (pc' := 15) (st' := []) rfl rfl ?_
              refine pm_R_op pm_M252 (pc' := 16) (st' := [.int (-1)]) rfl rfl rfl ?_
              exact pm_R_ret pm_M252 (r := some (.int (-1))) rfl rfl (K (-1) m40 w41 h42 T43 F48 W49)
            · have B58 : sf_B 0 11 a2 := sf_leL (Int32.not_lt.mp c56) B55 B52
              refine pm_R_op pm_M174 (pc' := 11) (st' := [.int 1]) rfl rfl rfl ?_
              refine pm_R_br pm_M174 (pc' := 15) rfl rfl ?_
              refine pm_R_ret pm_M174 (r := some (.int 1)) rfl rfl ?_
              show pm_R _ 250 20 [.ref 41, .int a0, .int a1, .int a2] [.int 1] _ _
              refine pm_R_br pm_M250 (pc' := 23) (st' := []) rfl rfl ?_
              refine pm_R_op pm_M250 (pc' := 24) (st' := [.int 1]) rfl rfl rfl ?_
              refine pm_R_br pm_M250 (pc' := 28) rfl rfl ?_
              refine pm_R_ret pm_M250 (r := some (.int 1)) rfl rfl ?_
              show pm_R _ 252 12 [.ref 41, .int a0, .int a1, .int a2, pm_no, pm_no] [.int 1] _ _
              refine pm_R_br pm_M252 (pc' := 17) (st' := []) rfl rfl ?_
              refine pm_R_op pm_M252 (pc' := 18) (st' := [.int 0]) rfl rfl rfl ?_
              refine pm_R_lo pm_M252 (pc' := 20) (ls' := [.ref 41, .int a0, .int a1, .int a2, .int 0, pm_no]) (st' := []) rfl rfl rfl ?_
              refine pm_R_lo pm_M252 (pc' := 21) rfl rfl rfl ?_
              refine pm_R_lo pm_M252 (pc' := 22) rfl rfl rfl ?_
              refine rf_R_put pm_M252 T43 (pc' := 25) rfl rfl rfl (by decide) rfl rfl (sf_weak B58 (by decide) (by decide)) rfl rfl (fun h59 m62 em63 T60 F61 => ?_)
              have F64 := F48.trans F61 (by decide)
              have B65 : sf_B 1 12 (m62 24) := by rw [em63]; exact B47
              have B66 : sf_B 0 11 (m62 26) := by rw [em63]; exact B58
              have ek67 : (m62 26).toInt = (a2).toInt := by rw [em63]; rfl
              have W68 : rf_W [0, 23, 24, 26, 27] m m62 := by rw [em63]; exact W49.put (by decide)
              refine pm_R_op pm_M252 (pc' := 26) (st' := [.int 0]) rfl rfl rfl ?_
              refine pm_R_lo pm_M252 (pc' := 28) (ls' := [.ref 41, .int a0, .int a1, .int a2, .int 0, .int 0]) (st' := []) rfl rfl rfl ?_
              have L_641 : ∀ (N : Nat) (h_641 : pm_H) (m_641 : Nat → Int32) (w_641 : Int64) (x4_641 : Int32) (x5_641 : Int32), rf_T m_641 w_641 h_641 → rf_G [41, 53, 54] h h_641 → rf_W [27] m62 m_641 → sf_B (-2147483648) 2147483647 x4_641 → sf_B 0 16 x5_641 → (16 - x5_641.toInt).toNat = N → pm_R (d + 6) 252 28 [.ref 41, .int a0, .int a1, .int a2, .int x4_641, .int x5_641] [] h_641 Q := by
                intro N
                induction N using Nat.strongRecOn with
                | ind N ih_641 =>
                  intro h_641 m_641 w_641 x4_641 x5_641 T_641 F_641 W_641 Bx4_641 Bx5_641 hN_641
                  have B644 : sf_B 1 12 (m_641 24) := by rw [W_641 24 (by decide)]; exact B65
                  have B645 : sf_B 0 11 (m_641 26) := by rw [W_641 26 (by decide)]; exact B66
                  have ek646 : (m_641 26).toInt = (a2).toInt := by rw [W_641 26 (by decide)]; exact ek67
                  have W647 : rf_W [0, 23, 24, 26, 27] m m_641 := W68.trans W_641 (by decide)
                  refine pm_R_lo pm_M252 (pc' := 30) rfl rfl rfl ?_
                  refine pm_R_lo pm_M252 (pc' := 31) rfl rfl rfl ?_
                  refine pm_R_cv pm_M252 (pc' := 34) (a := 41) (ra := []) (rest := [.int x5_641]) (ls' := [.ref 41]) rfl rfl (Or.inl rfl) pm_M203 T_641.2.1 rfl (by decide) (Nat.lt_of_lt_of_le (by decide) T_641.1) rfl rfl (Nat.le_of_ble_eq_true rfl) rfl rfl ?_
                  refine pm_R_lo pm_M203 (pc' := 1) rfl rfl rfl ?_
                  refine rf_R_get pm_M203 T_641 (pc' := 4) (v := .ref 47) rfl rfl rfl rfl ?_
                  refine pm_R_op pm_M203 (pc' := 6) (st' := [.int 100, .ref 47]) rfl rfl rfl ?_
                  refine pm_R_lo pm_M203 (pc' := 7) rfl rfl rfl ?_
                  have B648 : sf_B 0 1 (m_641 23) := T_641.2.2.1 23
                  refine rf_R_get pm_M203 T_641 (pc' := 10) (v := .int (m_641 23)) rfl rfl rfl rfl ?_
                  refine sf_R_imul pm_M203 (pc' := 11) rfl rfl sf_k100 B648 (by decide) (by decide) (by decide) (fun z649 e650 B651 => ?_)
                  refine pm_R_op pm_M203 (pc' := 12) (st' := [.int 1, .int z649, .ref 47]) rfl rfl rfl ?_
                  refine sf_R_iadd pm_M203 (pc' := 13) rfl rfl B651 sf_k1 (by decide) (by decide) (fun z652 e653 B654 => ?_)
                  obtain ⟨f655, e656, b657⟩ := T_641.2.2.2.1 47 (by decide) (by decide)
                  refine rf_R_ild pm_M203 T_641 (pc' := 14) rfl e656 (by decide) (sf_in B654 (by decide) (by decide)) rfl (fun z658 ez659 => ?_)
                  have e660 : (z652).toInt = 100 * ((m_641 23)).toInt + 1 := (sf_aux7 _ _ _ e650 e653)
                  have B661 : sf_B 0 16 z658 := ez659 ▸ rf_p47b b657 e660 B648 (by decide)
                  refine pm_R_ret pm_M203 (r := some (.int z658)) rfl (pm_ret_i _) ?_
                  show pm_R _ 252 34 [.ref 41, .int a0, .int a1, .int a2, .int x4_641, .int x5_641] [.int z658, .int x5_641] _ _
                  refine pm_R_icmp pm_M252 (t := 88) (pc' := 37) rfl rfl rfl (fun c662 => ?_) (fun c662 => ?_)
                  · skip
                    refine pm_R_lo pm_M252 (pc' := 89) rfl rfl rfl ?_
                    refine pm_R_op pm_M252 (pc' := 90) (st' := [.int (-1), .ref 41]) rfl rfl rfl ?_
                    refine rf_R_put pm_M252 T_641 (pc' := 93) rfl rfl rfl (by decide) rfl rfl (sf_weak sf_kn1 (by decide) (by decide)) rfl rfl (fun h663 m666 em667 T664 F665 => ?_)
                    have F668 := F_641.trans F665 (by decide)
                    have B669 : sf_B 1 12 (m666 24) := by rw [em667]; exact B644
                    have B670 : sf_B (-1) (-1) (m666 26) := by rw [em667]; exact sf_kn1
                    have W672 : rf_W [0, 23, 24, 26, 27] m m666 := by rw [em667]; exact W647.put (by decide)
                    refine pm_R_lo pm_M252 (pc' := 95) rfl rfl rfl ?_
                    exact pm_R_ret pm_M252 (r := some (.int x4_641)) rfl (pm_ret_i _) (K x4_641 m666 w_641 h663 T664 F668 W672)
                  · have B673 : sf_B 0 15 x5_641 := sf_ltL (Int32.not_le.mp c662) Bx5_641 B661
                    have B674 : sf_B 1 16 z658 := sf_ltR (Int32.not_le.mp c662) Bx5_641 B661
                    refine pm_R_lo pm_M252 (pc' := 38) rfl rfl rfl ?_
                    refine pm_R_lo pm_M252 (pc' := 40) rfl rfl rfl ?_
                    refine rf_R_put pm_M252 T_641 (pc' := 43) rfl rfl rfl (by decide) rfl rfl B673 rfl rfl (fun h675 m678 em679 T676 F677 => ?_)
                    have F680 := F_641.trans F677 (by decide)
                    have B681 : sf_B 1 12 (m678 24) := by rw [em679]; exact B644
                    have B682 : sf_B 0 11 (m678 26) := by rw [em679]; exact B645
                    have ek683 : (m678 26).toInt = (a2).toInt := by rw [em679]; exact ek646
                    have B684 : sf_B 0 15 (m678 27) := by rw [em679]; exact B673
                    have ek685 : (m678 27).toInt = (x5_641).toInt := by rw [em679]; rfl
                    have W686 : rf_W [0, 23, 24, 26, 27] m m678 := by rw [em679]; exact W647.put (by decide)
                    have W687 : rf_W [27] m62 m678 := by rw [em679]; exact W_641.put (by decide)
                    refine pm_R_lo pm_M252 (pc' := 45) rfl rfl rfl ?_
                    refine pm_R_lo pm_M252 (pc' := 46) rfl rfl rfl ?_
                    refine rf_R_get pm_M252 T676 (pc' := 49) (v := .ref 53) rfl rfl rfl rfl ?_
                    refine pm_R_lo pm_M252 (pc' := 50) rfl rfl rfl ?_
                    obtain ⟨f688, e689⟩ := T676.2.2.2.1 53 (by decide) (by decide)
                    refine rf_R_ild pm_M252 T676 (pc' := 51) rfl e689 (by decide) (sf_in B58 (by decide) (by decide)) rfl (fun z691 ez692 => ?_)
                    refine sf_R_lany pm_M252 (pc' := 52) (st := [.int x4_641]) rfl rfl rfl (fun z693 => ?_)
                    refine pm_R_lo pm_M252 (pc' := 53) rfl rfl rfl ?_
                    refine pm_R_lo pm_M252 (pc' := 55) rfl rfl rfl ?_
                    refine pm_R_op pm_M252 (pc' := 56) (st' := [.int 0, .int x5_641, .ref 41, .long z693, .int x4_641]) rfl rfl rfl ?_
                    refine pm_R_cv pm_M252 (pc' := 59) (a := 41) (ra := [.int 0, .int x5_641]) (rest := [.long z693, .int x4_641]) (ls' := [.ref 41, .int x5_641, .int 0]) rfl rfl (Or.inl rfl) pm_M205 T676.2.1 rfl (by decide) (Nat.lt_of_lt_of_le (by decide) T676.1) rfl rfl (Nat.le_of_ble_eq_true rfl) rfl rfl ?_
                    refine pm_R_lo pm_M205 (pc' := 1) rfl rfl rfl ?_
                    refine rf_R_get pm_M205 T676 (pc' := 4) (v := .ref 47) rfl rfl rfl rfl ?_
                    refine pm_R_op pm_M205 (pc' := 6) (st' := [.int 100, .ref 47]) rfl rfl rfl ?_
                    refine pm_R_lo pm_M205 (pc' := 7) rfl rfl rfl ?_
                    have B694 : sf_B 0 1 (m678 23) := T676.2.2.1 23
                    refine rf_R_get pm_M205 T676 (pc' := 10) (v := .int (m678 23)) rfl rfl rfl rfl ?_
                    refine sf_R_imul pm_M205 (pc' := 11) rfl rfl sf_k100 B694 (by decide) (by decide) (by decide) (fun z695 e696 B697 => ?_)
                    refine pm_R_op pm_M205 (pc' := 13) (st' := [.int 42, .int z695, .ref 47]) rfl rfl rfl ?_
                    refine sf_R_iadd pm_M205 (pc' := 14) rfl rfl B697 sf_k42 (by decide) (by decide) (fun z698 e699 B700 => ?_)
                    refine pm_R_op pm_M205 (pc' := 15) (st' := [.int 3, .int z698, .ref 47]) rfl rfl rfl ?_
                    refine pm_R_lo pm_M205 (pc' := 16) rfl rfl rfl ?_
                    refine sf_R_imul pm_M205 (pc' := 17) rfl rfl sf_k3 B673 (by decide) (by decide) (by decide) (fun z701 e702 B703 => ?_)
                    refine sf_R_iadd pm_M205 (pc' := 18) rfl rfl B700 B703 (by decide) (by decide) (fun z704 e705 B706 => ?_)
                    refine pm_R_lo pm_M205 (pc' := 19) rfl rfl rfl ?_
                    refine sf_R_iadd pm_M205 (pc' := 20) rfl rfl B706 sf_k0 (by decide) (by decide) (fun z707 e708 B709 => ?_)
                    have e710 := (F677.cell (by decide) e656)
                    refine rf_R_ild pm_M205 T676 (pc' := 21) rfl e710 (by decide) (sf_in B709 (by decide) (by decide)) rfl (fun z711 ez712 => ?_)
                    have e713 : (z707).toInt = 100 * ((m678 23)).toInt + 3 * (x5_641).toInt + 42 := (sf_aux8 _ _ _ _ _ _ _ e696 e699 e702 e705 e708)
                    have B714 : sf_B 0 9 z711 := ez712 ▸ rf_p47s b657 e713 B694 B673 (by decide) (by decide) (by decide)
                    refine pm_R_ret pm_M205 (r := some (.int z711)) rfl (pm_ret_i _) ?_
                    show pm_R _ 252 59 [.ref 41, .int a0, .int a1, .int a2, .int x4_641, .int x5_641] [.int z711, .long z693, .int x4_641] _ _
                    refine pm_R_cs pm_M252 (pc' := 62) (ra := [.int z711, .long z693]) (rest := [.int x4_641]) (ls' := [.long z693, pm_no, .int z711]) rfl rfl (Or.inl rfl) pm_M206 rfl rfl (Nat.le_of_ble_eq_true rfl) rfl rfl ?_
                    refine pm_R_lo pm_M206 (pc' := 1) rfl rfl rfl ?_
                    refine pm_R_lo pm_M206 (pc' := 2) rfl rfl rfl ?_
                    refine sf_R_lany pm_M206 (pc' := 3) (st := []) rfl rfl rfl (fun z715 => ?_)
                    refine pm_R_op pm_M206 (pc' := 4) (st' := [.long 1, .long z715]) rfl rfl rfl ?_
                    refine sf_R_lany pm_M206 (pc' := 5) (st := []) rfl rfl rfl (fun z716 => ?_)
                    refine pm_R_op pm_M206 (pc' := 6) (st' := [.long 1, .long z716]) rfl rfl rfl ?_
                    refine sf_R_lcmp pm_M206 (pc' := 7) rfl rfl (fun z717 e718 => ?_)
                    refine pm_R_ifc pm_M206 (t := 14) (pc' := 10) rfl rfl rfl (fun c719 => ?_) (fun c719 => ?_)
                    · have k720 := sf_lneC e718 c719
                      refine pm_R_op pm_M206 (pc' := 15) (st' := [.int 0]) rfl rfl rfl ?_
                      refine pm_R_ret pm_M206 (r := some (.int 0)) rfl rfl ?_
                      show pm_R _ 252 62 [.ref 41, .int a0, .int a1, .int a2, .int x4_641, .int x5_641] [.int 0, .int x4_641] _ _
                      refine pm_R_br pm_M252 (pc' := 78) (st' := [.int x4_641]) rfl rfl ?_
                      refine pm_R_op pm_M252 (pc' := 79) (st' := [.int 0, .int x4_641]) rfl rfl rfl ?_
                      refine sf_R_iadd pm_M252 (pc' := 80) rfl rfl Bx4_641 sf_k0 (by decide) (by decide) (fun z721 e722 B723 => ?_)
                      refine pm_R_lo pm_M252 (pc' := 82) (ls' := [.ref 41, .int a0, .int a1, .int a2, .int z721, .int x5_641]) (st' := []) rfl rfl rfl ?_
                      refine sf_R_iinc pm_M252 (pc' := 85) (ls' := fun z => [.ref 41, .int a0, .int a1, .int a2, .int z721, .int z]) rfl B673 rfl (by decide) (by decide) (by decide) (fun _ => rfl) rfl (fun z724 e725 B726 => ?_)
                      show pm_R _ 252 85 [.ref 41, .int a0, .int a1, .int a2, .int z721, .int z724] [] _ _
                      refine pm_R_br pm_M252 (pc' := 28) rfl rfl ?_
                      exact ih_641 _ (sf_up hN_641 e725 B673 (by decide) (by decide)) h675 m678 w_641 z721 z724 T676 F680 W687 B723 (sf_weak B726 (by decide) (by decide)) rfl
                    · have B727 : sf_B 0 0 z717 := sf_eqL (Classical.not_not.mp c719) sf_k0
                      refine pm_R_op pm_M206 (pc' := 11) (st' := [.int 1]) rfl rfl rfl ?_
                      refine pm_R_br pm_M206 (pc' := 15) rfl rfl ?_
                      refine pm_R_ret pm_M206 (r := some (.int 1)) rfl rfl ?_
                      show pm_R _ 252 62 [.ref 41, .int a0, .int a1, .int a2, .int x4_641, .int x5_641] [.int 1, .int x4_641] _ _
                      refine pm_R_br pm_M252 (pc' := 65) (st' := [.int x4_641]) rfl rfl ?_
                      refine pm_R_lo pm_M252 (pc' := 66) rfl rfl rfl ?_
                      refine pm_R_cv pm_M252 (pc' := 69) (a := 41) (ra := []) (rest := [.int x4_641]) (ls' := [.ref 41]) rfl rfl (Or.inl rfl) pm_M215 T676.2.1 rfl (by decide) (Nat.lt_of_lt_of_le (by decide) T676.1) rfl rfl (Nat.le_of_ble_eq_true rfl) rfl rfl ?_
                      refine rf_c215 (d := d + 0) T676 B681 (fun r728 m730 w731 h732 T733 F734 W735 => ?_)
                      have F736 := F680.trans F734 (by decide)
                      have B737 : sf_B 1 12 (m730 24) := by rw [W735 24 (by decide)]; exact B681
                      have B738 : sf_B 0 11 (m730 26) := by rw [W735 26 (by decide)]; exact B682
                      have ek739 : (m730 26).toInt = (a2).toInt := by rw [W735 26 (by decide)]; exact ek683
                      have W740 : rf_W [0, 23, 24, 26, 27] m m730 := W686.trans W735 (by decide)
                      have W741 : rf_W [27] m62 m730 := W687.trans W735 (by decide)
                      show pm_R _ 252 69 [.ref 41, .int a0, .int a1, .int a2, .int x4_641, .int x5_641] [.long r728, .int x4_641] _ _
                      refine pm_R_op pm_M252 (pc' := 70) (st' := [.long 0, .long r728, .int x4_641]) rfl rfl rfl ?_
                      refine sf_R_lcmp pm_M252 (pc' := 71) rfl rfl (fun z742 e743 => ?_)
                      refine pm_R_ifc pm_M252 (t := 78) (pc' := 74) rfl rfl rfl (fun c744 => ?_) (fun c744 => ?_)
                      · have B745 : sf_B 0 0 z742 := sf_eqL c744 sf_k0
                        refine pm_R_op pm_M252 (pc' := 79) (st' := [.int 0, .int x4_641]) rfl rfl rfl ?_
                        refine sf_R_iadd pm_M252 (pc' := 80) rfl rfl Bx4_641 sf_k0 (by decide) (by decide) (fun z746 e747 B748 => ?_)
                        refine pm_R_lo pm_M252 (pc' := 82) (ls' := [.ref 41, .int a0, .int a1, .int a2, .int z746, .int x5_641]) (st' := []) rfl rfl rfl ?_
                        refine sf_R_iinc pm_M252 (pc' := 85) (ls' := fun z => [.ref 41, .int a0, .int a1, .int a2, .int z746, .int z]) rfl B673 rfl (by decide) (by decide) (by decide) (fun _ => rfl) rfl (fun z749 e750 B751 => ?_)
                        show pm_R _ 252 85 [.ref 41, .int a0, .int a1, .int a2, .int z746, .int z749] [] _ _
                        refine pm_R_br pm_M252 (pc' := 28) rfl rfl ?_
                        exact ih_641 _ (sf_up hN_641 e750 B673 (by decide) (by decide)) h732 m730 w731 z746 z749 T733 F736 W741 B748 (sf_weak B751 (by decide) (by decide)) rfl
                      · have k752 := sf_lneC e743 c744
                        refine pm_R_op pm_M252 (pc' := 75) (st' := [.int 1, .int x4_641]) rfl rfl rfl ?_
                        refine pm_R_br pm_M252 (pc' := 79) rfl rfl ?_
                        refine sf_R_iany pm_M252 (pc' := 80) (st := []) rfl rfl rfl (fun z756 => ?_)
                        refine pm_R_lo pm_M252 (pc' := 82) (ls' := [.ref 41, .int a0, .int a1, .int a2, .int z756, .int x5_641]) (st' := []) rfl rfl rfl ?_
                        refine sf_R_iinc pm_M252 (pc' := 85) (ls' := fun z => [.ref 41, .int a0, .int a1, .int a2, .int z756, .int z]) rfl B673 rfl (by decide) (by decide) (by decide) (fun _ => rfl) rfl (fun z757 e758 B759 => ?_)
                        show pm_R _ 252 85 [.ref 41, .int a0, .int a1, .int a2, .int z756, .int z757] [] _ _
                        refine pm_R_br pm_M252 (pc' := 28) rfl rfl ?_
                        exact ih_641 _ (sf_up hN_641 e758 B673 (by decide) (by decide)) h732 m730 w731 z756 z757 T733 F736 W741 (sf_any z756) (sf_weak B759 (by decide) (by decide)) rfl
              exact L_641 _ h59 m62 w41 0 0 T60 F64 (rf_W.refl _ _) (sf_weak sf_k0 (by decide) (by decide)) (sf_weak sf_k0 (by decide) (by decide)) rfl

set_option maxRecDepth 100000 in
set_option maxHeartbeats 4000000 in
/-- SilentTableModel.reaches -/
theorem rf_c268 {d : Nat} {m : Nat → Int32} {w : Int64} {h : pm_H} {Q : Option Value → pm_H → Prop} {a0 : Int32} {a1 : Int32} {a2 : Int32} {a3 : Int32} {a4 : Int32} (T : rf_T m w h)  (K : ∀ (r : Int32) (m' : Nat → Int32) (w' : Int64) (h' : pm_H), rf_T m' w' h' → rf_G [41, 53, 54, 67, 68] h h' → rf_W [0, 23, 24, 26, 42, 43, 44] m m' → sf_B 0 1 r → Q (some (.int r)) h') : pm_R (d + 8) 268 0 [.ref 41, .int a0, .int a1, .int a2, .int a3, .int a4, pm_no] [] h Q := by
  refine pm_R_lo pm_M268 (pc' := 1) rfl rfl rfl ?_
  refine pm_R_op pm_M268 (pc' := 2) (st' := [.int 0, .ref 41]) rfl rfl rfl ?_
  refine rf_R_put pm_M268 T (pc' := 5) rfl rfl rfl (by decide) rfl rfl sf_k0 rfl rfl (fun h1 m4 em5 T2 F3 => ?_)
  have F6 := (rf_G.refl [41, 53, 54, 67, 68] h).trans F3 (by decide)
  have B7 : sf_B 0 0 (m4 0) := by rw [em5]; exact sf_k0
  have W9 : rf_W [0, 23, 24, 26, 42, 43, 44] m m4 := by rw [em5]; exact (rf_W.refl [0, 23, 24, 26, 42, 43, 44] m).put (by decide)
  refine pm_R_lo pm_M268 (pc' := 6) rfl rfl rfl ?_
  refine pm_R_lo pm_M268 (pc' := 7) rfl rfl rfl ?_
  refine pm_R_lo pm_M268 (pc' := 9) rfl rfl rfl ?_
  refine pm_R_lo pm_M268 (pc' := 11) rfl rfl rfl ?_
  refine pm_R_cv pm_M268 (pc' := 14) (a := 41) (ra := [.int a4, .int a3, .int a2]) (rest := []) (ls' := [.ref 41, .int a2, .int a3, .int a4, pm_no, pm_no, pm_no, pm_no, pm_no]) rfl rfl (Or.inl rfl) pm_M266 T2.2.1 rfl (by decide) (Nat.lt_of_lt_of_le (by decide) T2.1) rfl rfl (Nat.le_of_ble_eq_true rfl) rfl rfl ?_
  refine rf_c266 (d := d + 4) T2  (fun r10 m12 w13 h14 T15 F16 W17 B11 => ?_)
  have F18 := F6.trans F16 (by decide)
  have W19 : rf_W [0, 23, 24, 26, 42, 43, 44] m m12 := W9.trans W17 (by decide)
  show pm_R _ 268 14 [.ref 41, .int a0, .int a1, .int a2, .int a3, .int a4, pm_no] [.int r10] _ _
  refine pm_R_lo pm_M268 (pc' := 16) (ls' := [.ref 41, .int a0, .int a1, .int a2, .int a3, .int a4, .int r10]) (st' := []) rfl rfl rfl ?_
  refine pm_R_lo pm_M268 (pc' := 18) rfl rfl rfl ?_
  refine pm_R_op pm_M268 (pc' := 19) (st' := [.int (-1), .int r10]) rfl rfl rfl ?_
  refine pm_R_icmp pm_M268 (t := 46) (pc' := 22) rfl rfl rfl (fun c20 => ?_) (fun c20 => ?_)
  · have B21 : sf_B (-1) (-1) r10 := sf_eqL c20 sf_kn1
    refine pm_R_op pm_M268 (pc' := 47) (st' := [.int 0]) rfl rfl rfl ?_
    exact pm_R_ret pm_M268 (r := some (.int 0)) rfl rfl (K 0 m12 w13 h14 T15 F18 W19 (sf_weak sf_k0 (by decide) (by decide)))
  · have B22 : sf_B 0 5 r10 := sf_neL0 c20 sf_kn1 B11
    refine pm_R_lo pm_M268 (pc' := 23) rfl rfl rfl ?_
    refine pm_R_lo pm_M268 (pc' := 24) rfl rfl rfl ?_
    refine pm_R_lo pm_M268 (pc' := 25) rfl rfl rfl ?_
    refine pm_R_cv pm_M268 (pc' := 28) (a := 41) (ra := [.int a1, .int a0]) (rest := []) (ls' := [.ref 41, .int a0, .int a1]) rfl rfl (Or.inl rfl) pm_M200 T15.2.1 rfl (by decide) (Nat.lt_of_lt_of_le (by decide) T15.1) rfl rfl (Nat.le_of_ble_eq_true rfl) rfl rfl ?_
    refine pm_R_lo pm_M200 (pc' := 1) rfl rfl rfl ?_
    refine pm_R_op pm_M200 (pc' := 2) (st' := [.int 0, .ref 41]) rfl rfl rfl ?_
    refine pm_R_lo pm_M200 (pc' := 3) rfl rfl rfl ?_
    refine pm_R_cv pm_M200 (pc' := 6) (a := 41) (ra := [.int a0, .int 0]) (rest := []) (ls' := [.ref 41, .int 0, .int a0]) rfl rfl (Or.inl rfl) pm_M177 T15.2.1 rfl (by decide) (Nat.lt_of_lt_of_le (by decide) T15.1) rfl rfl (Nat.le_of_ble_eq_true rfl) rfl rfl ?_
    refine pm_R_lo pm_M177 (pc' := 1) rfl rfl rfl ?_
    refine pm_R_op pm_M177 (pc' := 2) (st' := [.int 0, .int a0]) rfl rfl rfl ?_
    refine pm_R_lo pm_M177 (pc' := 3) rfl rfl rfl ?_
    refine rf_R_get pm_M177 T15 (pc' := 6) (v := .ref 46) rfl rfl rfl rfl ?_
    refine pm_R_lo pm_M177 (pc' := 7) rfl rfl rfl ?_
    obtain ⟨f23, e24, b25⟩ := T15.2.2.2.1 46 (by decide) (by decide)
    refine rf_R_ild pm_M177 T15 (pc' := 8) rfl e24 (by decide) rfl rfl (fun z26 ez27 => ?_)
    have B28 : sf_B 0 2 z26 := ez27 ▸ (b25 0)
    refine pm_R_op pm_M177 (pc' := 9) (st' := [.int 1, .int z26, .int 0, .int a0]) rfl rfl rfl ?_
    refine sf_R_isub pm_M177 (pc' := 10) rfl rfl B28 sf_k1 (by decide) (by decide) (fun z29 e30 B31 => ?_)
    refine pm_R_cs pm_M177 (pc' := 13) (ra := [.int z29, .int 0, .int a0]) (rest := []) (ls' := [.int a0, .int 0, .int z29]) rfl rfl (Or.inl rfl) pm_M174 rfl rfl (Nat.le_of_ble_eq_true rfl) rfl rfl ?_
    refine pm_R_lo pm_M174 (pc' := 1) rfl rfl rfl ?_
    refine pm_R_lo pm_M174 (pc' := 2) rfl rfl rfl ?_
    refine pm_R_icmp pm_M174 (t := 14) (pc' := 5) rfl rfl rfl (fun c32 => ?_) (fun c32 => ?_)
    · have B33 : sf_B (-2147483648) (-1) a0 := sf_ltL c32 (sf_any a0) sf_k0
      refine pm_R_op pm_M174 (pc' := 15) (st' := [.int 0]) rfl rfl rfl ?_
      refine pm_R_ret pm_M174 (r := some (.int 0)) rfl rfl ?_
      show pm_R _ 177 13 [.ref 41, .int 0, .int a0] [.int 0] _ _
      refine pm_R_ret pm_M177 (r := some (.int 0)) rfl rfl ?_
      show pm_R _ 200 6 [.ref 41, .int a0, .int a1] [.int 0] _ _
      refine pm_R_br pm_M200 (pc' := 18) (st' := []) rfl rfl ?_
      refine pm_R_op pm_M200 (pc' := 19) (st' := [.int 0]) rfl rfl rfl ?_
      refine pm_R_ret pm_M200 (r := some (.int 0)) rfl rfl ?_
      show pm_R _ 268 28 [.ref 41, .int a0, .int a1, .int a2, .int a3, .int a4, .int r10] [.int 0] _ _
      refine pm_R_br pm_M268 (pc' := 46) (st' := []) rfl rfl ?_
      refine pm_R_op pm_M268 (pc' := 47) (st' := [.int 0]) rfl rfl rfl ?_
      exact pm_R_ret pm_M268 (r := some (.int 0)) rfl rfl (K 0 m12 w13 h14 T15 F18 W19 (sf_weak sf_k0 (by decide) (by decide)))
    · have B34 : sf_B 0 2147483647 a0 := sf_leR (Int32.not_lt.mp c32) sf_k0 (sf_any a0)
      refine pm_R_lo pm_M174 (pc' := 6) rfl rfl rfl ?_
      refine pm_R_lo pm_M174 (pc' := 7) rfl rfl rfl ?_
      refine pm_R_icmp pm_M174 (t := 14) (pc' := 10) rfl rfl rfl (fun c35 => ?_) (fun c35 => ?_)
      · skip
        refine pm_R_op pm_M174 (pc' := 15) (st' := [.int 0]) rfl rfl rfl ?_
        refine pm_R_ret pm_M174 (r := some (.int 0)) rfl rfl ?_
        show pm_R _ 177 13 [.ref 41, .int 0, .int a0] [.int 0] _ _
        refine pm_R_ret pm_M177 (r := some (.int 0)) rfl rfl ?_
        show pm_R _ 200 6 [.ref 41, .int a0, .int a1] [.int 0] _ _
        refine pm_R_br pm_M200 (pc' := 18) (st' := []) rfl rfl ?_
        refine pm_R_op pm_M200 (pc' := 19) (st' := [.int 0]) rfl rfl rfl ?_
        refine pm_R_ret pm_M200 (r := some (.int 0)) rfl rfl ?_
        show pm_R _ 268 28 [.ref 41, .int a0, .int a1, .int a2, .int a3, .int a4, .int r10] [.int 0] _ _
        refine pm_R_br pm_M268 (pc' := 46) (st' := []) rfl rfl ?_
        refine pm_R_op pm_M268 (pc' := 47) (st' := [.int 0]) rfl rfl rfl ?_
        exact pm_R_ret pm_M268 (r := some (.int 0)) rfl rfl (K 0 m12 w13 h14 T15 F18 W19 (sf_weak sf_k0 (by decide) (by decide)))
      · have B36 : sf_B 0 1 a0 := sf_leL (Int32.not_lt.mp c35) B34 B31
        have B37 : sf_B 0 1 z29 := sf_leR (Int32.not_lt.mp c35) B34 B31
        refine pm_R_op pm_M174 (pc' := 11) (st' := [.int 1]) rfl rfl rfl ?_
        refine pm_R_br pm_M174 (pc' := 15) rfl rfl ?_
        refine pm_R_ret pm_M174 (r := some (.int 1)) rfl rfl ?_
        show pm_R _ 177 13 [.ref 41, .int 0, .int a0] [.int 1] _ _
        refine pm_R_ret pm_M177 (r := some (.int 1)) rfl rfl ?_
        show pm_R _ 200 6 [.ref 41, .int a0, .int a1] [.int 1] _ _
        refine pm_R_br pm_M200 (pc' := 9) (st' := []) rfl rfl ?_
        refine pm_R_lo pm_M200 (pc' := 10) rfl rfl rfl ?_
        refine pm_R_op pm_M200 (pc' := 11) (st' := [.int 1, .ref 41]) rfl rfl rfl ?_
        refine pm_R_lo pm_M200 (pc' := 12) rfl rfl rfl ?_
        refine pm_R_cv pm_M200 (pc' := 15) (a := 41) (ra := [.int a1, .int 1]) (rest := []) (ls' := [.ref 41, .int 1, .int a1]) rfl rfl (Or.inl rfl) pm_M177 T15.2.1 rfl (by decide) (Nat.lt_of_lt_of_le (by decide) T15.1) rfl rfl (Nat.le_of_ble_eq_true rfl) rfl rfl ?_
        refine pm_R_lo pm_M177 (pc' := 1) rfl rfl rfl ?_
        refine pm_R_op pm_M177 (pc' := 2) (st' := [.int 0, .int a1]) rfl rfl rfl ?_
        refine pm_R_lo pm_M177 (pc' := 3) rfl rfl rfl ?_
        refine rf_R_get pm_M177 T15 (pc' := 6) (v := .ref 46) rfl rfl rfl rfl ?_
        refine pm_R_lo pm_M177 (pc' := 7) rfl rfl rfl ?_
        refine rf_R_ild pm_M177 T15 (pc' := 8) rfl e24 (by decide) rfl rfl (fun z38 ez39 => ?_)
        have B40 : sf_B 0 3 z38 := ez39 ▸ (b25 1)
        refine pm_R_op pm_M177 (pc' := 9) (st' := [.int 1, .int z38, .int 0, .int a1]) rfl rfl rfl ?_
        refine sf_R_isub pm_M177 (pc' := 10) rfl rfl B40 sf_k1 (by decide) (by decide) (fun z41 e42 B43 => ?_)
        refine pm_R_cs pm_M177 (pc' := 13) (ra := [.int z41, .int 0, .int a1]) (rest := []) (ls' := [.int a1, .int 0, .int z41]) rfl rfl (Or.inl rfl) pm_M174 rfl rfl (Nat.le_of_ble_eq_true rfl) rfl rfl ?_
        refine pm_R_lo pm_M174 (pc' := 1) rfl rfl rfl ?_
        refine pm_R_lo pm_M174 (pc' := 2) rfl rfl rfl ?_
        refine pm_R_icmp pm_M174 (t := 14) (pc' := 5) rfl rfl rfl (fun c44 => ?_) (fun c44 => ?_)
        · have B45 : sf_B (-2147483648) (-1) a1 := sf_ltL c44 (sf_any a1) sf_k0
          refine pm_R_op pm_M174 (pc' := 15) (st' := [.int 0]) rfl rfl rfl ?_
          refine pm_R_ret pm_M174 (r := some (.int 0)) rfl rfl ?_
          show pm_R _ 177 13 [.ref 41, .int 1, .int a1] [.int 0] _ _
          refine pm_R_ret pm_M177 (r := some (.int 0)) rfl rfl ?_
          show pm_R _ 200 15 [.ref 41, .int a0, .int a1] [.int 0] _ _
          refine pm_R_br pm_M200 (pc' := 18) (st' := []) rfl rfl ?_
          refine pm_R_op pm_M200 (pc' := 19) (st' := [.int 0]) rfl rfl rfl ?_
          refine pm_R_ret pm_M200 (r := some (.int 0)) rfl rfl ?_
          show pm_R _ 268 28 [.ref 41, .int a0, .int a1, .int a2, .int a3, .int a4, .int r10] [.int 0] _ _
          refine pm_R_br pm_M268 (pc' := 46) (st' := []) rfl rfl ?_
          refine pm_R_op pm_M268 (pc' := 47) (st' := [.int 0]) rfl rfl rfl ?_
          exact pm_R_ret pm_M268 (r := some (.int 0)) rfl rfl (K 0 m12 w13 h14 T15 F18 W19 (sf_weak sf_k0 (by decide) (by decide)))
        · have B46 : sf_B 0 2147483647 a1 := sf_leR (Int32.not_lt.mp c44) sf_k0 (sf_any a1)
          refine pm_R_lo pm_M174 (pc' := 6) rfl rfl rfl ?_
          refine pm_R_lo pm_M174 (pc' := 7) rfl rfl rfl ?_
          refine pm_R_icmp pm_M174 (t := 14) (pc' := 10) rfl rfl rfl (fun c47 => ?_) (fun c47 => ?_)
          · skip
            refine pm_R_op pm_M174 (pc' := 15) (st' := [.int 0]) rfl rfl rfl ?_
            refine pm_R_ret pm_M174 (r := some (.int 0)) rfl rfl ?_
            show pm_R _ 177 13 [.ref 41, .int 1, .int a1] [.int 0] _ _
            refine pm_R_ret pm_M177 (r := some (.int 0)) rfl rfl ?_
            show pm_R _ 200 15 [.ref 41, .int a0, .int a1] [.int 0] _ _
            refine pm_R_br pm_M200 (pc' := 18) (st' := []) rfl rfl ?_
            refine pm_R_op pm_M200 (pc' := 19) (st' := [.int 0]) rfl rfl rfl ?_
            refine pm_R_ret pm_M200 (r := some (.int 0)) rfl rfl ?_
            show pm_R _ 268 28 [.ref 41, .int a0, .int a1, .int a2, .int a3, .int a4, .int r10] [.int 0] _ _
            refine pm_R_br pm_M268 (pc' := 46) (st' := []) rfl rfl ?_
            refine pm_R_op pm_M268 (pc' := 47) (st' := [.int 0]) rfl rfl rfl ?_
            exact pm_R_ret pm_M268 (r := some (.int 0)) rfl rfl (K 0 m12 w13 h14 T15 F18 W19 (sf_weak sf_k0 (by decide) (by decide)))
          · have V48 := rf_V.mk e24 ez39 e42 (Int32.not_lt.mp c47) B46 (by decide)
            have V48 := V48.back F18 (by decide)
            have B49 : sf_B 0 2 a1 := sf_leL (Int32.not_lt.mp c47) B46 B43
            have B50 : sf_B 0 2 z41 := sf_leR (Int32.not_lt.mp c47) B46 B43
            refine pm_R_op pm_M174 (pc' := 11) (st' := [.int 1]) rfl rfl rfl ?_
            refine pm_R_br pm_M174 (pc' := 15) rfl rfl ?_
            refine pm_R_ret pm_M174 (r := some (.int 1)) rfl rfl ?_
            show pm_R _ 177 13 [.ref 41, .int 1, .int a1] [.int 1] _ _
            refine pm_R_ret pm_M177 (r := some (.int 1)) rfl rfl ?_
            show pm_R _ 200 15 [.ref 41, .int a0, .int a1] [.int 1] _ _
            refine pm_R_br pm_M200 (pc' := 20) (st' := []) rfl rfl ?_
            refine pm_R_lo pm_M200 (pc' := 21) rfl rfl rfl ?_
            refine pm_R_lo pm_M200 (pc' := 22) rfl rfl rfl ?_
            refine pm_R_lo pm_M200 (pc' := 23) rfl rfl rfl ?_
            refine pm_R_cv pm_M200 (pc' := 26) (a := 41) (ra := [.int a1, .int a0]) (rest := []) (ls' := [.ref 41, .int a0, .int a1, pm_no]) rfl rfl (Or.inl rfl) pm_M201 T15.2.1 rfl (by decide) (Nat.lt_of_lt_of_le (by decide) T15.1) rfl rfl (Nat.le_of_ble_eq_true rfl) rfl rfl ?_
            refine rf_c201 (d := d + 6) T15 B36 B49 (V48.F F18 (by decide)) (fun m53 w54 h55 T56 F57 W58 X59 B60 => ?_)
            have F61 := F18.trans F57 (by decide)
            have W62 : rf_W [0, 23, 24, 26, 42, 43, 44] m m53 := W19.trans W58 (by decide)
            show pm_R _ 200 26 [.ref 41, .int a0, .int a1] [] _ _
            refine pm_R_op pm_M200 (pc' := 27) (st' := [.int 1]) rfl rfl rfl ?_
            refine pm_R_ret pm_M200 (r := some (.int 1)) rfl rfl ?_
            show pm_R _ 268 28 [.ref 41, .int a0, .int a1, .int a2, .int a3, .int a4, .int r10] [.int 1] _ _
            refine pm_R_br pm_M268 (pc' := 31) (st' := []) rfl rfl ?_
            refine pm_R_lo pm_M268 (pc' := 32) rfl rfl rfl ?_
            refine pm_R_lo pm_M268 (pc' := 34) rfl rfl rfl ?_
            refine pm_R_op pm_M268 (pc' := 35) (st' := [.int 1, .int r10, .ref 41]) rfl rfl rfl ?_
            refine sf_R_isub pm_M268 (pc' := 36) rfl rfl B22 sf_k1 (by decide) (by decide) (fun z63 e64 B65 => ?_)
            refine pm_R_cv pm_M268 (pc' := 39) (a := 41) (ra := [.int z63]) (rest := []) (ls' := [.ref 41, .int z63, pm_no, pm_no]) rfl rfl (Or.inl rfl) pm_M239 T56.2.1 rfl (by decide) (Nat.lt_of_lt_of_le (by decide) T56.1) rfl rfl (Nat.le_of_ble_eq_true rfl) rfl rfl ?_
            refine pm_R_lo pm_M239 (pc' := 1) rfl rfl rfl ?_
            refine pm_R_cv pm_M239 (pc' := 4) (a := 41) (ra := []) (rest := []) (ls' := [.ref 41]) rfl rfl (Or.inl rfl) pm_M215 T56.2.1 rfl (by decide) (Nat.lt_of_lt_of_le (by decide) T56.1) rfl rfl (Nat.le_of_ble_eq_true rfl) rfl rfl ?_
            refine rf_c215 (d := d + 1) T56 B60 (fun r66 m68 w69 h70 T71 F72 W73 => ?_)
            have F74 := F61.trans F72 (by decide)
            have B75 : sf_B 1 12 (m68 24) := by rw [W73 24 (by decide)]; exact B60
            have W76 : rf_W [0, 23, 24, 26, 42, 43, 44] m m68 := W62.trans W73 (by decide)
            show pm_R _ 239 4 [.ref 41, .int z63, pm_no, pm_no] [.long r66] _ _
            refine pm_R_lo pm_M239 (pc' := 5) (ls' := [.ref 41, .int z63, .long r66, pm_no]) (st' := []) rfl rfl rfl ?_
            refine pm_R_lo pm_M239 (pc' := 6) rfl rfl rfl ?_
            refine pm_R_op pm_M239 (pc' := 7) (st' := [.long 0, .long r66]) rfl rfl rfl ?_
            refine sf_R_lcmp pm_M239 (pc' := 8) rfl rfl (fun z77 e78 => ?_)
            refine pm_R_ifc pm_M239 (t := 25) (pc' := 11) rfl rfl rfl (fun c79 => ?_) (fun c79 => ?_)
            · have B80 : sf_B 0 0 z77 := sf_eqL c79 sf_k0
              refine pm_R_op pm_M239 (pc' := 26) (st' := [.int 0]) rfl rfl rfl ?_
              refine pm_R_ret pm_M239 (r := some (.int 0)) rfl rfl ?_
              show pm_R _ 268 39 [.ref 41, .int a0, .int a1, .int a2, .int a3, .int a4, .int r10] [.int 0] _ _
              refine pm_R_br pm_M268 (pc' := 46) (st' := []) rfl rfl ?_
              refine pm_R_op pm_M268 (pc' := 47) (st' := [.int 0]) rfl rfl rfl ?_
              exact pm_R_ret pm_M268 (r := some (.int 0)) rfl rfl (K 0 m68 w69 h70 T71 F74 W76 (sf_weak sf_k0 (by decide) (by decide)))
            · have k81 := sf_lneC e78 c79
              refine pm_R_lo pm_M239 (pc' := 12) rfl rfl rfl ?_
              refine pm_R_lo pm_M239 (pc' := 13) rfl rfl rfl ?_
              refine pm_R_cv pm_M239 (pc' := 16) (a := 41) (ra := [.int z63]) (rest := []) (ls' := [.ref 41, .int z63]) rfl rfl (Or.inl rfl) pm_M234 T71.2.1 rfl (by decide) (Nat.lt_of_lt_of_le (by decide) T71.1) rfl rfl (Nat.le_of_ble_eq_true rfl) rfl rfl ?_
              refine pm_R_lo pm_M234 (pc' := 1) rfl rfl rfl ?_
              refine pm_R_lo pm_M234 (pc' := 2) rfl rfl rfl ?_
              refine pm_R_cv pm_M234 (pc' := 5) (a := 41) (ra := [.int z63]) (rest := []) (ls' := [.ref 41, .int z63, pm_no, pm_no, pm_no, pm_no]) rfl rfl (Or.inl rfl) pm_M235 T71.2.1 rfl (by decide) (Nat.lt_of_lt_of_le (by decide) T71.1) rfl rfl (Nat.le_of_ble_eq_true rfl) rfl rfl ?_
              refine rf_c235 (d := d + 4) T71 (sf_weak B65 (by decide) (by decide)) (fun m84 w85 h86 T87 F88 W89 => ?_)
              have F90 := F74.trans F88 (by decide)
              have B91 : sf_B 1 12 (m84 24) := by rw [W89 24 (by decide)]; exact B75
              have W92 : rf_W [0, 23, 24, 26, 42, 43, 44] m m84 := W76.trans W89 (by decide)
              show pm_R _ 234 5 [.ref 41, .int z63] [] _ _
              refine pm_R_lo pm_M234 (pc' := 6) rfl rfl rfl ?_
              refine pm_R_cv pm_M234 (pc' := 9) (a := 41) (ra := []) (rest := []) (ls' := [.ref 41]) rfl rfl (Or.inl rfl) pm_M215 T87.2.1 rfl (by decide) (Nat.lt_of_lt_of_le (by decide) T87.1) rfl rfl (Nat.le_of_ble_eq_true rfl) rfl rfl ?_
              refine rf_c215 (d := d + 0) T87 B91 (fun r93 m95 w96 h97 T98 F99 W100 => ?_)
              have F101 := F90.trans F99 (by decide)
              have B102 : sf_B 1 12 (m95 24) := by rw [W100 24 (by decide)]; exact B91
              have W103 : rf_W [0, 23, 24, 26, 42, 43, 44] m m95 := W92.trans W100 (by decide)
              show pm_R _ 234 9 [.ref 41, .int z63] [.long r93] _ _
              refine pm_R_ret pm_M234 (r := some (.long r93)) rfl rfl ?_
              show pm_R _ 239 16 [.ref 41, .int z63, .long r66, pm_no] [.long r93] _ _
              refine pm_R_lo pm_M239 (pc' := 17) rfl rfl rfl ?_
              refine sf_R_lcmp pm_M239 (pc' := 18) rfl rfl (fun z104 e105 => ?_)
              refine pm_R_ifc pm_M239 (t := 25) (pc' := 21) rfl rfl rfl (fun c106 => ?_) (fun c106 => ?_)
              · have k107 := sf_lneC e105 c106
                refine pm_R_op pm_M239 (pc' := 26) (st' := [.int 0]) rfl rfl rfl ?_
                refine pm_R_ret pm_M239 (r := some (.int 0)) rfl rfl ?_
                show pm_R _ 268 39 [.ref 41, .int a0, .int a1, .int a2, .int a3, .int a4, .int r10] [.int 0] _ _
                refine pm_R_br pm_M268 (pc' := 46) (st' := []) rfl rfl ?_
                refine pm_R_op pm_M268 (pc' := 47) (st' := [.int 0]) rfl rfl rfl ?_
                exact pm_R_ret pm_M268 (r := some (.int 0)) rfl rfl (K 0 m95 w96 h97 T98 F101 W103 (sf_weak sf_k0 (by decide) (by decide)))
              · have B108 : sf_B 0 0 z104 := sf_eqL (Classical.not_not.mp c106) sf_k0
                refine pm_R_op pm_M239 (pc' := 22) (st' := [.int 1]) rfl rfl rfl ?_
                refine pm_R_br pm_M239 (pc' := 26) rfl rfl ?_
                refine pm_R_ret pm_M239 (r := some (.int 1)) rfl rfl ?_
                show pm_R _ 268 39 [.ref 41, .int a0, .int a1, .int a2, .int a3, .int a4, .int r10] [.int 1] _ _
                refine pm_R_br pm_M268 (pc' := 42) (st' := []) rfl rfl ?_
                refine pm_R_op pm_M268 (pc' := 43) (st' := [.int 1]) rfl rfl rfl ?_
                refine pm_R_br pm_M268 (pc' := 47) rfl rfl ?_
                exact pm_R_ret pm_M268 (r := some (.int 1)) rfl rfl (K 1 m95 w96 h97 T98 F101 W103 (sf_weak sf_k1 (by decide) (by decide)))

set_option maxRecDepth 100000 in
set_option maxHeartbeats 4000000 in
/-- SilentTableModel.drawn -/
theorem rf_c284 {d : Nat} {m : Nat → Int32} {w : Int64} {h : pm_H} {Q : Option Value → pm_H → Prop} {a0 : Int32} {a1 : Int32} {a2 : Int32} {a3 : Int32} {a4 : Int32} (T : rf_T m w h)  (K : ∀ (r : Int32) (m' : Nat → Int32) (w' : Int64) (h' : pm_H), rf_T m' w' h' → rf_G [41, 53, 70] h h' → rf_W [0, 23, 24, 26, 50] m m' → sf_B (-1) 9 r → Q (some (.int r)) h') : pm_R (d + 3) 284 0 [.ref 41, .int a0, .int a1, .int a2, .int a3, .int a4, pm_no, pm_no] [] h Q := by
  refine pm_R_lo pm_M284 (pc' := 1) rfl rfl rfl ?_
  refine pm_R_op pm_M284 (pc' := 2) (st' := [.int 0, .ref 41]) rfl rfl rfl ?_
  refine rf_R_put pm_M284 T (pc' := 5) rfl rfl rfl (by decide) rfl rfl sf_k0 rfl rfl (fun h1 m4 em5 T2 F3 => ?_)
  have F6 := (rf_G.refl [41, 53, 70] h).trans F3 (by decide)
  have B7 : sf_B 0 0 (m4 0) := by rw [em5]; exact sf_k0
  have W9 : rf_W [0, 23, 24, 26, 50] m m4 := by rw [em5]; exact (rf_W.refl [0, 23, 24, 26, 50] m).put (by decide)
  refine pm_R_lo pm_M284 (pc' := 6) rfl rfl rfl ?_
  refine pm_R_op pm_M284 (pc' := 7) (st' := [.int 0, .int a2]) rfl rfl rfl ?_
  refine pm_R_op pm_M284 (pc' := 9) (st' := [.int 9, .int 0, .int a2]) rfl rfl rfl ?_
  refine pm_R_cs pm_M284 (pc' := 12) (ra := [.int 9, .int 0, .int a2]) (rest := []) (ls' := [.int a2, .int 0, .int 9]) rfl rfl (Or.inl rfl) pm_M174 rfl rfl (Nat.le_of_ble_eq_true rfl) rfl rfl ?_
  refine pm_R_lo pm_M174 (pc' := 1) rfl rfl rfl ?_
  refine pm_R_lo pm_M174 (pc' := 2) rfl rfl rfl ?_
  refine pm_R_icmp pm_M174 (t := 14) (pc' := 5) rfl rfl rfl (fun c10 => ?_) (fun c10 => ?_)
  · have B11 : sf_B (-2147483648) (-1) a2 := sf_ltL c10 (sf_any a2) sf_k0
    refine pm_R_op pm_M174 (pc' := 15) (st' := [.int 0]) rfl rfl rfl ?_
    refine pm_R_ret pm_M174 (r := some (.int 0)) rfl rfl ?_
    show pm_R _ 284 12 [.ref 41, .int a0, .int a1, .int a2, .int a3, .int a4, pm_no, pm_no] [.int 0] _ _
    refine pm_R_br pm_M284 (pc' := 39) (st' := []) rfl rfl ?_
    refine pm_R_op pm_M284 (pc' := 40) (st' := [.int (-1)]) rfl rfl rfl ?_
    exact pm_R_ret pm_M284 (r := some (.int (-1))) rfl rfl (K (-1) m4 w h1 T2 F6 W9 (sf_weak sf_kn1 (by decide) (by decide)))
  · have B12 : sf_B 0 2147483647 a2 := sf_leR (Int32.not_lt.mp c10) sf_k0 (sf_any a2)
    refine pm_R_lo pm_M174 (pc' := 6) rfl rfl rfl ?_
    refine pm_R_lo pm_M174 (pc' := 7) rfl rfl rfl ?_
    refine pm_R_icmp pm_M174 (t := 14) (pc' := 10) rfl rfl rfl (fun c13 => ?_) (fun c13 => ?_)
    · have B14 : sf_B 10 2147483647 a2 := sf_ltR c13 sf_k9 B12
      refine pm_R_op pm_M174 (pc' := 15) (st' := [.int 0]) rfl rfl rfl ?_
      refine pm_R_ret pm_M174 (r := some (.int 0)) rfl rfl ?_
      show pm_R _ 284 12 [.ref 41, .int a0, .int a1, .int a2, .int a3, .int a4, pm_no, pm_no] [.int 0] _ _
      refine pm_R_br pm_M284 (pc' := 39) (st' := []) rfl rfl ?_
      refine pm_R_op pm_M284 (pc' := 40) (st' := [.int (-1)]) rfl rfl rfl ?_
      exact pm_R_ret pm_M284 (r := some (.int (-1))) rfl rfl (K (-1) m4 w h1 T2 F6 W9 (sf_weak sf_kn1 (by decide) (by decide)))
    · have B15 : sf_B 0 9 a2 := sf_leL (Int32.not_lt.mp c13) B12 sf_k9
      refine pm_R_op pm_M174 (pc' := 11) (st' := [.int 1]) rfl rfl rfl ?_
      refine pm_R_br pm_M174 (pc' := 15) rfl rfl ?_
      refine pm_R_ret pm_M174 (r := some (.int 1)) rfl rfl ?_
      show pm_R _ 284 12 [.ref 41, .int a0, .int a1, .int a2, .int a3, .int a4, pm_no, pm_no] [.int 1] _ _
      refine pm_R_br pm_M284 (pc' := 15) (st' := []) rfl rfl ?_
      refine pm_R_lo pm_M284 (pc' := 16) rfl rfl rfl ?_
      refine pm_R_lo pm_M284 (pc' := 17) rfl rfl rfl ?_
      refine pm_R_lo pm_M284 (pc' := 18) rfl rfl rfl ?_
      refine pm_R_cv pm_M284 (pc' := 21) (a := 41) (ra := [.int a1, .int a0]) (rest := []) (ls' := [.ref 41, .int a0, .int a1]) rfl rfl (Or.inl rfl) pm_M200 T2.2.1 rfl (by decide) (Nat.lt_of_lt_of_le (by decide) T2.1) rfl rfl (Nat.le_of_ble_eq_true rfl) rfl rfl ?_
      refine pm_R_lo pm_M200 (pc' := 1) rfl rfl rfl ?_
      refine pm_R_op pm_M200 (pc' := 2) (st' := [.int 0, .ref 41]) rfl rfl rfl ?_
      refine pm_R_lo pm_M200 (pc' := 3) rfl rfl rfl ?_
      refine pm_R_cv pm_M200 (pc' := 6) (a := 41) (ra := [.int a0, .int 0]) (rest := []) (ls' := [.ref 41, .int 0, .int a0]) rfl rfl (Or.inl rfl) pm_M177 T2.2.1 rfl (by decide) (Nat.lt_of_lt_of_le (by decide) T2.1) rfl rfl (Nat.le_of_ble_eq_true rfl) rfl rfl ?_
      refine pm_R_lo pm_M177 (pc' := 1) rfl rfl rfl ?_
      refine pm_R_op pm_M177 (pc' := 2) (st' := [.int 0, .int a0]) rfl rfl rfl ?_
      refine pm_R_lo pm_M177 (pc' := 3) rfl rfl rfl ?_
      refine rf_R_get pm_M177 T2 (pc' := 6) (v := .ref 46) rfl rfl rfl rfl ?_
      refine pm_R_lo pm_M177 (pc' := 7) rfl rfl rfl ?_
      obtain ⟨f16, e17, b18⟩ := T2.2.2.2.1 46 (by decide) (by decide)
      refine rf_R_ild pm_M177 T2 (pc' := 8) rfl e17 (by decide) rfl rfl (fun z19 ez20 => ?_)
      have B21 : sf_B 0 2 z19 := ez20 ▸ (b18 0)
      refine pm_R_op pm_M177 (pc' := 9) (st' := [.int 1, .int z19, .int 0, .int a0]) rfl rfl rfl ?_
      refine sf_R_isub pm_M177 (pc' := 10) rfl rfl B21 sf_k1 (by decide) (by decide) (fun z22 e23 B24 => ?_)
      refine pm_R_cs pm_M177 (pc' := 13) (ra := [.int z22, .int 0, .int a0]) (rest := []) (ls' := [.int a0, .int 0, .int z22]) rfl rfl (Or.inl rfl) pm_M174 rfl rfl (Nat.le_of_ble_eq_true rfl) rfl rfl ?_
      refine pm_R_lo pm_M174 (pc' := 1) rfl rfl rfl ?_
      refine pm_R_lo pm_M174 (pc' := 2) rfl rfl rfl ?_
      refine pm_R_icmp pm_M174 (t := 14) (pc' := 5) rfl rfl rfl (fun c25 => ?_) (fun c25 => ?_)
      · have B26 : sf_B (-2147483648) (-1) a0 := sf_ltL c25 (sf_any a0) sf_k0
        refine pm_R_op pm_M174 (pc' := 15) (st' := [.int 0]) rfl rfl rfl ?_
        refine pm_R_ret pm_M174 (r := some (.int 0)) rfl rfl ?_
        show pm_R _ 177 13 [.ref 41, .int 0, .int a0] [.int 0] _ _
        refine pm_R_ret pm_M177 (r := some (.int 0)) rfl rfl ?_
        show pm_R _ 200 6 [.ref 41, .int a0, .int a1] [.int 0] _ _
        refine pm_R_br pm_M200 (pc' := 18) (st' := []) rfl rfl ?_
        refine pm_R_op pm_M200 (pc' := 19) (st' := [.int 0]) rfl rfl rfl ?_
        refine pm_R_ret pm_M200 (r := some (.int 0)) rfl rfl ?_
        show pm_R _ 284 21 [.ref 41, .int a0, .int a1, .int a2, .int a3, .int a4, pm_no, pm_no] [.int 0] _ _
        refine pm_R_br pm_M284 (pc' := 39) (st' := []) rfl rfl ?_
        refine pm_R_op pm_M284 (pc' := 40) (st' := [.int (-1)]) rfl rfl rfl ?_
        exact pm_R_ret pm_M284 (r := some (.int (-1))) rfl rfl (K (-1) m4 w h1 T2 F6 W9 (sf_weak sf_kn1 (by decide) (by decide)))
      · have B27 : sf_B 0 2147483647 a0 := sf_leR (Int32.not_lt.mp c25) sf_k0 (sf_any a0)
        refine pm_R_lo pm_M174 (pc' := 6) rfl rfl rfl ?_
        refine pm_R_lo pm_M174 (pc' := 7) rfl rfl rfl ?_
        refine pm_R_icmp pm_M174 (t := 14) (pc' := 10) rfl rfl rfl (fun c28 => ?_) (fun c28 => ?_)
        · skip
          refine pm_R_op pm_M174 (pc' := 15) (st' := [.int 0]) rfl rfl rfl ?_
          refine pm_R_ret pm_M174 (r := some (.int 0)) rfl rfl ?_
          show pm_R _ 177 13 [.ref 41, .int 0, .int a0] [.int 0] _ _
          refine pm_R_ret pm_M177 (r := some (.int 0)) rfl rfl ?_
          show pm_R _ 200 6 [.ref 41, .int a0, .int a1] [.int 0] _ _
          refine pm_R_br pm_M200 (pc' := 18) (st' := []) rfl rfl ?_
          refine pm_R_op pm_M200 (pc' := 19) (st' := [.int 0]) rfl rfl rfl ?_
          refine pm_R_ret pm_M200 (r := some (.int 0)) rfl rfl ?_
          show pm_R _ 284 21 [.ref 41, .int a0, .int a1, .int a2, .int a3, .int a4, pm_no, pm_no] [.int 0] _ _
          refine pm_R_br pm_M284 (pc' := 39) (st' := []) rfl rfl ?_
          refine pm_R_op pm_M284 (pc' := 40) (st' := [.int (-1)]) rfl rfl rfl ?_
          exact pm_R_ret pm_M284 (r := some (.int (-1))) rfl rfl (K (-1) m4 w h1 T2 F6 W9 (sf_weak sf_kn1 (by decide) (by decide)))
        · have B29 : sf_B 0 1 a0 := sf_leL (Int32.not_lt.mp c28) B27 B24
          have B30 : sf_B 0 1 z22 := sf_leR (Int32.not_lt.mp c28) B27 B24
          refine pm_R_op pm_M174 (pc' := 11) (st' := [.int 1]) rfl rfl rfl ?_
          refine pm_R_br pm_M174 (pc' := 15) rfl rfl ?_
          refine pm_R_ret pm_M174 (r := some (.int 1)) rfl rfl ?_
          show pm_R _ 177 13 [.ref 41, .int 0, .int a0] [.int 1] _ _
          refine pm_R_ret pm_M177 (r := some (.int 1)) rfl rfl ?_
          show pm_R _ 200 6 [.ref 41, .int a0, .int a1] [.int 1] _ _
          refine pm_R_br pm_M200 (pc' := 9) (st' := []) rfl rfl ?_
          refine pm_R_lo pm_M200 (pc' := 10) rfl rfl rfl ?_
          refine pm_R_op pm_M200 (pc' := 11) (st' := [.int 1, .ref 41]) rfl rfl rfl ?_
          refine pm_R_lo pm_M200 (pc' := 12) rfl rfl rfl ?_
          refine pm_R_cv pm_M200 (pc' := 15) (a := 41) (ra := [.int a1, .int 1]) (rest := []) (ls' := [.ref 41, .int 1, .int a1]) rfl rfl (Or.inl rfl) pm_M177 T2.2.1 rfl (by decide) (Nat.lt_of_lt_of_le (by decide) T2.1) rfl rfl (Nat.le_of_ble_eq_true rfl) rfl rfl ?_
          refine pm_R_lo pm_M177 (pc' := 1) rfl rfl rfl ?_
          refine pm_R_op pm_M177 (pc' := 2) (st' := [.int 0, .int a1]) rfl rfl rfl ?_
          refine pm_R_lo pm_M177 (pc' := 3) rfl rfl rfl ?_
          refine rf_R_get pm_M177 T2 (pc' := 6) (v := .ref 46) rfl rfl rfl rfl ?_
          refine pm_R_lo pm_M177 (pc' := 7) rfl rfl rfl ?_
          refine rf_R_ild pm_M177 T2 (pc' := 8) rfl e17 (by decide) rfl rfl (fun z31 ez32 => ?_)
          have B33 : sf_B 0 3 z31 := ez32 ▸ (b18 1)
          refine pm_R_op pm_M177 (pc' := 9) (st' := [.int 1, .int z31, .int 0, .int a1]) rfl rfl rfl ?_
          refine sf_R_isub pm_M177 (pc' := 10) rfl rfl B33 sf_k1 (by decide) (by decide) (fun z34 e35 B36 => ?_)
          refine pm_R_cs pm_M177 (pc' := 13) (ra := [.int z34, .int 0, .int a1]) (rest := []) (ls' := [.int a1, .int 0, .int z34]) rfl rfl (Or.inl rfl) pm_M174 rfl rfl (Nat.le_of_ble_eq_true rfl) rfl rfl ?_
          refine pm_R_lo pm_M174 (pc' := 1) rfl rfl rfl ?_
          refine pm_R_lo pm_M174 (pc' := 2) rfl rfl rfl ?_
          refine pm_R_icmp pm_M174 (t := 14) (pc' := 5) rfl rfl rfl (fun c37 => ?_) (fun c37 => ?_)
          · have B38 : sf_B (-2147483648) (-1) a1 := sf_ltL c37 (sf_any a1) sf_k0
            refine pm_R_op pm_M174 (pc' := 15) (st' := [.int 0]) rfl rfl rfl ?_
            refine pm_R_ret pm_M174 (r := some (.int 0)) rfl rfl ?_
            show pm_R _ 177 13 [.ref 41, .int 1, .int a1] [.int 0] _ _
            refine pm_R_ret pm_M177 (r := some (.int 0)) rfl rfl ?_
            show pm_R _ 200 15 [.ref 41, .int a0, .int a1] [.int 0] _ _
            refine pm_R_br pm_M200 (pc' := 18) (st' := []) rfl rfl ?_
            refine pm_R_op pm_M200 (pc' := 19) (st' := [.int 0]) rfl rfl rfl ?_
            refine pm_R_ret pm_M200 (r := some (.int 0)) rfl rfl ?_
            show pm_R _ 284 21 [.ref 41, .int a0, .int a1, .int a2, .int a3, .int a4, pm_no, pm_no] [.int 0] _ _
            refine pm_R_br pm_M284 (pc' := 39) (st' := []) rfl rfl ?_
            refine pm_R_op pm_M284 (pc' := 40) (st' := [.int (-1)]) rfl rfl rfl ?_
            exact pm_R_ret pm_M284 (r := some (.int (-1))) rfl rfl (K (-1) m4 w h1 T2 F6 W9 (sf_weak sf_kn1 (by decide) (by decide)))
          · have B39 : sf_B 0 2147483647 a1 := sf_leR (Int32.not_lt.mp c37) sf_k0 (sf_any a1)
            refine pm_R_lo pm_M174 (pc' := 6) rfl rfl rfl ?_
            refine pm_R_lo pm_M174 (pc' := 7) rfl rfl rfl ?_
            refine pm_R_icmp pm_M174 (t := 14) (pc' := 10) rfl rfl rfl (fun c40 => ?_) (fun c40 => ?_)
            · skip
              refine pm_R_op pm_M174 (pc' := 15) (st' := [.int 0]) rfl rfl rfl ?_
              refine pm_R_ret pm_M174 (r := some (.int 0)) rfl rfl ?_
              show pm_R _ 177 13 [.ref 41, .int 1, .int a1] [.int 0] _ _
              refine pm_R_ret pm_M177 (r := some (.int 0)) rfl rfl ?_
              show pm_R _ 200 15 [.ref 41, .int a0, .int a1] [.int 0] _ _
              refine pm_R_br pm_M200 (pc' := 18) (st' := []) rfl rfl ?_
              refine pm_R_op pm_M200 (pc' := 19) (st' := [.int 0]) rfl rfl rfl ?_
              refine pm_R_ret pm_M200 (r := some (.int 0)) rfl rfl ?_
              show pm_R _ 284 21 [.ref 41, .int a0, .int a1, .int a2, .int a3, .int a4, pm_no, pm_no] [.int 0] _ _
              refine pm_R_br pm_M284 (pc' := 39) (st' := []) rfl rfl ?_
              refine pm_R_op pm_M284 (pc' := 40) (st' := [.int (-1)]) rfl rfl rfl ?_
              exact pm_R_ret pm_M284 (r := some (.int (-1))) rfl rfl (K (-1) m4 w h1 T2 F6 W9 (sf_weak sf_kn1 (by decide) (by decide)))
            · have V41 := rf_V.mk e17 ez32 e35 (Int32.not_lt.mp c40) B39 (by decide)
              have V41 := V41.back F6 (by decide)
              have B42 : sf_B 0 2 a1 := sf_leL (Int32.not_lt.mp c40) B39 B36
              have B43 : sf_B 0 2 z34 := sf_leR (Int32.not_lt.mp c40) B39 B36
              refine pm_R_op pm_M174 (pc' := 11) (st' := [.int 1]) rfl rfl rfl ?_
              refine pm_R_br pm_M174 (pc' := 15) rfl rfl ?_
              refine pm_R_ret pm_M174 (r := some (.int 1)) rfl rfl ?_
              show pm_R _ 177 13 [.ref 41, .int 1, .int a1] [.int 1] _ _
              refine pm_R_ret pm_M177 (r := some (.int 1)) rfl rfl ?_
              show pm_R _ 200 15 [.ref 41, .int a0, .int a1] [.int 1] _ _
              refine pm_R_br pm_M200 (pc' := 20) (st' := []) rfl rfl ?_
              refine pm_R_lo pm_M200 (pc' := 21) rfl rfl rfl ?_
              refine pm_R_lo pm_M200 (pc' := 22) rfl rfl rfl ?_
              refine pm_R_lo pm_M200 (pc' := 23) rfl rfl rfl ?_
              refine pm_R_cv pm_M200 (pc' := 26) (a := 41) (ra := [.int a1, .int a0]) (rest := []) (ls' := [.ref 41, .int a0, .int a1, pm_no]) rfl rfl (Or.inl rfl) pm_M201 T2.2.1 rfl (by decide) (Nat.lt_of_lt_of_le (by decide) T2.1) rfl rfl (Nat.le_of_ble_eq_true rfl) rfl rfl ?_
              refine rf_c201 (d := d + 1) T2 B29 B42 (V41.F F6 (by decide)) (fun m46 w47 h48 T49 F50 W51 X52 B53 => ?_)
              have F54 := F6.trans F50 (by decide)
              have W55 : rf_W [0, 23, 24, 26, 50] m m46 := W9.trans W51 (by decide)
              show pm_R _ 200 26 [.ref 41, .int a0, .int a1] [] _ _
              refine pm_R_op pm_M200 (pc' := 27) (st' := [.int 1]) rfl rfl rfl ?_
              refine pm_R_ret pm_M200 (r := some (.int 1)) rfl rfl ?_
              show pm_R _ 284 21 [.ref 41, .int a0, .int a1, .int a2, .int a3, .int a4, pm_no, pm_no] [.int 1] _ _
              refine pm_R_br pm_M284 (pc' := 24) (st' := []) rfl rfl ?_
              refine pm_R_lo pm_M284 (pc' := 26) rfl rfl rfl ?_
              refine pm_R_op pm_M284 (pc' := 27) (st' := [.int 0, .int a4]) rfl rfl rfl ?_
              refine pm_R_lo pm_M284 (pc' := 28) rfl rfl rfl ?_
              refine rf_R_get pm_M284 T49 (pc' := 31) (v := .int (m46 24)) rfl rfl rfl rfl ?_
              refine pm_R_op pm_M284 (pc' := 32) (st' := [.int 1, .int (m46 24), .int 0, .int a4]) rfl rfl rfl ?_
              refine sf_R_isub pm_M284 (pc' := 33) rfl rfl B53 sf_k1 (by decide) (by decide) (fun z56 e57 B58 => ?_)
              refine pm_R_cs pm_M284 (pc' := 36) (ra := [.int z56, .int 0, .int a4]) (rest := []) (ls' := [.int a4, .int 0, .int z56]) rfl rfl (Or.inl rfl) pm_M174 rfl rfl (Nat.le_of_ble_eq_true rfl) rfl rfl ?_
              refine pm_R_lo pm_M174 (pc' := 1) rfl rfl rfl ?_
              refine pm_R_lo pm_M174 (pc' := 2) rfl rfl rfl ?_
              refine pm_R_icmp pm_M174 (t := 14) (pc' := 5) rfl rfl rfl (fun c59 => ?_) (fun c59 => ?_)
              · have B60 : sf_B (-2147483648) (-1) a4 := sf_ltL c59 (sf_any a4) sf_k0
                refine pm_R_op pm_M174 (pc' := 15) (st' := [.int 0]) rfl rfl rfl ?_
                refine pm_R_ret pm_M174 (r := some (.int 0)) rfl rfl ?_
                show pm_R _ 284 36 [.ref 41, .int a0, .int a1, .int a2, .int a3, .int a4, pm_no, pm_no] [.int 0] _ _
                refine pm_R_br pm_M284 (pc' := 39) (st' := []) rfl rfl ?_
                refine pm_R_op pm_M284 (pc' := 40) (st' := [.int (-1)]) rfl rfl rfl ?_
                exact pm_R_ret pm_M284 (r := some (.int (-1))) rfl rfl (K (-1) m46 w47 h48 T49 F54 W55 (sf_weak sf_kn1 (by decide) (by decide)))
              · have B61 : sf_B 0 2147483647 a4 := sf_leR (Int32.not_lt.mp c59) sf_k0 (sf_any a4)
                refine pm_R_lo pm_M174 (pc' := 6) rfl rfl rfl ?_
                refine pm_R_lo pm_M174 (pc' := 7) rfl rfl rfl ?_
                refine pm_R_icmp pm_M174 (t := 14) (pc' := 10) rfl rfl rfl (fun c62 => ?_) (fun c62 => ?_)
                · have B63 : sf_B 1 2147483647 a4 := sf_ltR c62 B58 B61
                  refine pm_R_op pm_M174 (pc' := 15) (st' := [.int 0]) rfl rfl rfl ?_
                  refine pm_R_ret pm_M174 (r := some (.int 0)) rfl rfl ?_
                  show pm_R _ 284 36 [.ref 41, .int a0, .int a1, .int a2, .int a3, .int a4, pm_no, pm_no] [.int 0] _ _
                  refine pm_R_br pm_M284 (pc' := 39) (st' := []) rfl rfl ?_
                  refine pm_R_op pm_M284 (pc' := 40) (st' := [.int (-1)]) rfl rfl rfl ?_
                  exact pm_R_ret pm_M284 (r := some (.int (-1))) rfl rfl (K (-1) m46 w47 h48 T49 F54 W55 (sf_weak sf_kn1 (by decide) (by decide)))
                · have B64 : sf_B 0 11 a4 := sf_leL (Int32.not_lt.mp c62) B61 B58
                  refine pm_R_op pm_M174 (pc' := 11) (st' := [.int 1]) rfl rfl rfl ?_
                  refine pm_R_br pm_M174 (pc' := 15) rfl rfl ?_
                  refine pm_R_ret pm_M174 (r := some (.int 1)) rfl rfl ?_
                  show pm_R _ 284 36 [.ref 41, .int a0, .int a1, .int a2, .int a3, .int a4, pm_no, pm_no] [.int 1] _ _
                  refine pm_R_br pm_M284 (pc' := 41) (st' := []) rfl rfl ?_
                  refine pm_R_lo pm_M284 (pc' := 42) rfl rfl rfl ?_
                  refine pm_R_lo pm_M284 (pc' := 44) rfl rfl rfl ?_
                  refine rf_R_put pm_M284 T49 (pc' := 47) rfl rfl rfl (by decide) rfl rfl (sf_any _) rfl rfl (fun h65 m68 em69 T66 F67 => ?_)
                  have F70 := F54.trans F67 (by decide)
                  have B71 : sf_B 1 12 (m68 24) := by rw [em69]; exact B53
                  have B72 : sf_B (-2147483648) 2147483647 (m68 50) := by rw [em69]; exact (sf_any a3)
                  have ek73 : (m68 50).toInt = (a3).toInt := by rw [em69]; rfl
                  have W74 : rf_W [0, 23, 24, 26, 50] m m68 := by rw [em69]; exact W55.put (by decide)
                  refine pm_R_op pm_M284 (pc' := 48) (st' := [.int 0]) rfl rfl rfl ?_
                  refine pm_R_lo pm_M284 (pc' := 50) (ls' := [.ref 41, .int a0, .int a1, .int a2, .int a3, .int a4, .int 0, pm_no]) (st' := []) rfl rfl rfl ?_
                  have L_11221 : ∀ (N : Nat) (h_11221 : pm_H) (m_11221 : Nat → Int32) (w_11221 : Int64) (x6_11221 : Int32), rf_T m_11221 w_11221 h_11221 → rf_G [41, 53, 70] h h_11221 → rf_W [] m68 m_11221 → sf_B 0 12 x6_11221 → (12 - x6_11221.toInt).toNat = N → pm_R (d + 3) 284 50 [.ref 41, .int a0, .int a1, .int a2, .int a3, .int a4, .int x6_11221, pm_no] [] h_11221 Q := by
                    intro N
                    induction N using Nat.strongRecOn with
                    | ind N ih_11221 =>
                      intro h_11221 m_11221 w_11221 x6_11221 T_11221 F_11221 W_11221 Bx6_11221 hN_11221
                      have B11224 : sf_B 1 12 (m_11221 24) := by rw [W_11221 24 (by decide)]; exact B71
                      have W11225 : rf_W [0, 23, 24, 26, 50] m m_11221 := W74.trans W_11221 (by decide)
                      refine pm_R_lo pm_M284 (pc' := 52) rfl rfl rfl ?_
                      refine pm_R_lo pm_M284 (pc' := 53) rfl rfl rfl ?_
                      refine rf_R_get pm_M284 T_11221 (pc' := 56) (v := .int (m_11221 24)) rfl rfl rfl rfl ?_
                      refine pm_R_icmp pm_M284 (t := 86) (pc' := 59) rfl rfl rfl (fun c11226 => ?_) (fun c11226 => ?_)
                      · have B11227 : sf_B 1 12 x6_11221 := sf_leR c11226 B11224 Bx6_11221
                        refine pm_R_op pm_M284 (pc' := 87) (st' := [.int 0]) rfl rfl rfl ?_
                        refine pm_R_lo pm_M284 (pc' := 89) (ls' := [.ref 41, .int a0, .int a1, .int a2, .int a3, .int a4, .int 0, pm_no]) (st' := []) rfl rfl rfl ?_
                        have L_13848 : ∀ (N : Nat) (h_13848 : pm_H) (m_13848 : Nat → Int32) (w_13848 : Int64) (x6_13848 : Int32) (g7_13848 : Value), rf_T m_13848 w_13848 h_13848 → rf_G [41, 53, 70] h h_13848 → rf_W [50] m_11221 m_13848 → sf_B 0 9 x6_13848 → g7_13848.category = 1 → (9 - x6_13848.toInt).toNat = N → pm_R (d + 3) 284 89 [.ref 41, .int a0, .int a1, .int a2, .int a3, .int a4, .int x6_13848, g7_13848] [] h_13848 Q := by
                          intro N
                          induction N using Nat.strongRecOn with
                          | ind N ih_13848 =>
                            intro h_13848 m_13848 w_13848 x6_13848 g7_13848 T_13848 F_13848 W_13848 Bx6_13848 Cg7_13848 hN_13848
                            have B13851 : sf_B 1 12 (m_13848 24) := by rw [W_13848 24 (by decide)]; exact B11224
                            have W13852 : rf_W [0, 23, 24, 26, 50] m m_13848 := W11225.trans W_13848 (by decide)
                            refine pm_R_lo pm_M284 (pc' := 91) rfl rfl rfl ?_
                            refine pm_R_lo pm_M284 (pc' := 92) rfl rfl rfl ?_
                            refine pm_R_icmp pm_M284 (t := 158) (pc' := 95) rfl rfl rfl (fun c13853 => ?_) (fun c13853 => ?_)
                            · skip
                              refine pm_R_lo pm_M284 (pc' := 159) (pm_q284_1 (Nat.le_of_ble_eq_true rfl)) rfl rfl ?_
                              refine rf_R_get pm_M284 T_13848 (pc' := 162) (v := .ref 70) (pm_q284_1 (Nat.le_of_ble_eq_true rfl)) rfl rfl rfl ?_
                              refine pm_R_lo pm_M284 (pc' := 164) (pm_q284_1 (Nat.le_of_ble_eq_true rfl)) rfl rfl ?_
                              obtain ⟨f13854, e13855, b13856⟩ := T_13848.2.2.2.1 70 (by decide) (by decide)
                              refine rf_R_ild pm_M284 T_13848 (pc' := 165) (pm_q284_1 (Nat.le_of_ble_eq_true rfl)) e13855 (by decide) (sf_in B64 (by decide) (by decide)) rfl (fun z13857 ez13858 => ?_)
                              have B13859 : sf_B 0 9 z13857 := ez13858 ▸ b13856 _
                              exact pm_R_ret pm_M284 (r := some (.int z13857)) (pm_q284_1 (Nat.le_of_ble_eq_true rfl)) (pm_ret_i _) (K z13857 m_13848 w_13848 h_13848 T_13848 F_13848 W13852 (sf_weak B13859 (by decide) (by decide)))
                            · have B13860 : sf_B 0 8 x6_13848 := sf_ltL (Int32.not_le.mp c13853) Bx6_13848 B15
                              have B13861 : sf_B 1 9 a2 := sf_ltR (Int32.not_le.mp c13853) Bx6_13848 B15
                              refine pm_R_op pm_M284 (pc' := 96) (st' := [.int 0]) rfl rfl rfl ?_
                              refine pm_R_lo pm_M284 (pc' := 98) (ls' := [.ref 41, .int a0, .int a1, .int a2, .int a3, .int a4, .int x6_13848, .int 0]) (st' := []) rfl rfl rfl ?_
                              have L_14379 : ∀ (N : Nat) (h_14379 : pm_H) (m_14379 : Nat → Int32) (w_14379 : Int64) (x7_14379 : Int32), rf_T m_14379 w_14379 h_14379 → rf_G [41, 53, 70] h h_14379 → rf_W [50] m_13848 m_14379 → sf_B 0 12 x7_14379 → (12 - x7_14379.toInt).toNat = N → pm_R (d + 3) 284 98 [.ref 41, .int a0, .int a1, .int a2, .int a3, .int a4, .int x6_13848, .int x7_14379] [] h_14379 Q := by
                                intro N
                                induction N using Nat.strongRecOn with
                                | ind N ih_14379 =>
                                  intro h_14379 m_14379 w_14379 x7_14379 T_14379 F_14379 W_14379 Bx7_14379 hN_14379
                                  have B14382 : sf_B 1 12 (m_14379 24) := by rw [W_14379 24 (by decide)]; exact B13851
                                  have W14383 : rf_W [0, 23, 24, 26, 50] m m_14379 := W13852.trans W_14379 (by decide)
                                  have W14384 : rf_W [50] m_11221 m_14379 := W_13848.trans W_14379 (by decide)
                                  refine pm_R_lo pm_M284 (pc' := 100) rfl rfl rfl ?_
                                  refine pm_R_lo pm_M284 (pc' := 101) rfl rfl rfl ?_
                                  refine rf_R_get pm_M284 T_14379 (pc' := 104) (v := .int (m_14379 24)) rfl rfl rfl rfl ?_
                                  refine pm_R_icmp pm_M284 (t := 152) (pc' := 107) rfl rfl rfl (fun c14385 => ?_) (fun c14385 => ?_)
                                  · have B14386 : sf_B 1 12 x7_14379 := sf_leR c14385 B14382 Bx7_14379
                                    refine sf_R_iinc pm_M284 (pc' := 155) (ls' := fun z => [.ref 41, .int a0, .int a1, .int a2, .int a3, .int a4, .int z, .int x7_14379]) (pm_q284_1 (Nat.le_of_ble_eq_true rfl)) B13860 rfl (by decide) (by decide) (by decide) (fun _ => rfl) rfl (fun z14387 e14388 B14389 => ?_)
                                    show pm_R _ 284 155 [.ref 41, .int a0, .int a1, .int a2, .int a3, .int a4, .int z14387, .int x7_14379] [] _ _
                                    refine pm_R_br pm_M284 (pc' := 89) (pm_q284_1 (Nat.le_of_ble_eq_true rfl)) rfl ?_
                                    exact ih_13848 _ (sf_up hN_13848 e14388 B13860 (by decide) (by decide)) h_14379 m_14379 w_14379 z14387 (.int x7_14379) T_14379 F_14379 W14384 (sf_weak B14389 (by decide) (by decide)) rfl rfl
                                  · have B14390 : sf_B 0 11 x7_14379 := sf_ltL (Int32.not_le.mp c14385) Bx7_14379 B14382
                                    refine pm_R_lo pm_M284 (pc' := 108) rfl rfl rfl ?_
                                    refine rf_R_get pm_M284 T_14379 (pc' := 111) (v := .ref 70) (pm_q284_1 (Nat.le_of_ble_eq_true rfl)) rfl rfl rfl ?_
                                    refine pm_R_lo pm_M284 (pc' := 113) (pm_q284_1 (Nat.le_of_ble_eq_true rfl)) rfl rfl ?_
                                    refine pm_R_lo pm_M284 (pc' := 114) (pm_q284_1 (Nat.le_of_ble_eq_true rfl)) rfl rfl ?_
                                    refine pm_R_lo pm_M284 (pc' := 115) (pm_q284_1 (Nat.le_of_ble_eq_true rfl)) rfl rfl ?_
                                    refine rf_R_get pm_M284 T_14379 (pc' := 118) (v := .ref 70) (pm_q284_1 (Nat.le_of_ble_eq_true rfl)) rfl rfl rfl ?_
                                    refine pm_R_lo pm_M284 (pc' := 120) (pm_q284_1 (Nat.le_of_ble_eq_true rfl)) rfl rfl ?_
                                    obtain ⟨f14391, e14392, b14393⟩ := T_14379.2.2.2.1 70 (by decide) (by decide)
                                    refine rf_R_ild pm_M284 T_14379 (pc' := 121) (pm_q284_1 (Nat.le_of_ble_eq_true rfl)) e14392 (by decide) (sf_in B14390 (by decide) (by decide)) rfl (fun z14394 ez14395 => ?_)
                                    have B14396 : sf_B 0 9 z14394 := ez14395 ▸ b14393 _
                                    refine pm_R_lo pm_M284 (pc' := 122) (pm_q284_1 (Nat.le_of_ble_eq_true rfl)) rfl rfl ?_
                                    refine pm_R_op pm_M284 (pc' := 123) (st' := [.int 1, .ref 41, .int z14394, .ref 41, .int x7_14379, .ref 70]) (pm_q284_1 (Nat.le_of_ble_eq_true rfl)) rfl rfl ?_
                                    refine pm_R_lo pm_M284 (pc' := 124) (pm_q284_1 (Nat.le_of_ble_eq_true rfl)) rfl rfl ?_
                                    refine pm_R_lo pm_M284 (pc' := 125) (pm_q284_1 (Nat.le_of_ble_eq_true rfl)) rfl rfl ?_
                                    refine rf_R_get pm_M284 T_14379 (pc' := 128) (v := .ref 70) (pm_q284_1 (Nat.le_of_ble_eq_true rfl)) rfl rfl rfl ?_
                                    refine pm_R_lo pm_M284 (pc' := 130) (pm_q284_1 (Nat.le_of_ble_eq_true rfl)) rfl rfl ?_
                                    refine pm_R_iald pm_M284 (pc' := 131) (v := z14394) (pm_q284_1 (Nat.le_of_ble_eq_true rfl)) e14392 (Nat.lt_of_lt_of_le (by decide) T_14379.1) (sf_in B14390 (by decide) (by decide)) ez14395 rfl ?_
                                    refine pm_R_cv pm_M284 (pc' := 134) (a := 41) (ra := [.int z14394]) (rest := [.int 1, .ref 41, .int z14394, .ref 41, .int x7_14379, .ref 70]) (ls' := [.ref 41, .int z14394]) (pm_q284_1 (Nat.le_of_ble_eq_true rfl)) rfl (Or.inl rfl) pm_M236 T_14379.2.1 rfl (by decide) (Nat.lt_of_lt_of_le (by decide) T_14379.1) rfl rfl (Nat.le_of_ble_eq_true rfl) rfl rfl ?_
                                    refine pm_R_lo pm_M236 (pc' := 1) rfl rfl rfl ?_
                                    refine rf_R_get pm_M236 T_14379 (pc' := 4) (v := .ref 47) rfl rfl rfl rfl ?_
                                    refine pm_R_op pm_M236 (pc' := 6) (st' := [.int 100, .ref 47]) rfl rfl rfl ?_
                                    refine pm_R_lo pm_M236 (pc' := 7) rfl rfl rfl ?_
                                    have B14399 : sf_B 0 1 (m_14379 23) := T_14379.2.2.1 23
                                    refine rf_R_get pm_M236 T_14379 (pc' := 10) (v := .int (m_14379 23)) rfl rfl rfl rfl ?_
                                    refine sf_R_imul pm_M236 (pc' := 11) rfl rfl sf_k100 B14399 (by decide) (by decide) (by decide) (fun z14400 e14401 B14402 => ?_)
                                    refine pm_R_op pm_M236 (pc' := 13) (st' := [.int 90, .int z14400, .ref 47]) rfl rfl rfl ?_
                                    refine sf_R_iadd pm_M236 (pc' := 14) rfl rfl B14402 sf_k90 (by decide) (by decide) (fun z14403 e14404 B14405 => ?_)
                                    refine pm_R_lo pm_M236 (pc' := 15) rfl rfl rfl ?_
                                    refine sf_R_iadd pm_M236 (pc' := 16) rfl rfl B14405 B14396 (by decide) (by decide) (fun z14406 e14407 B14408 => ?_)
                                    obtain ⟨f14409, e14410, b14411⟩ := T_14379.2.2.2.1 47 (by decide) (by decide)
                                    refine rf_R_ild pm_M236 T_14379 (pc' := 17) rfl e14410 (by decide) (sf_in B14408 (by decide) (by decide)) rfl (fun z14412 ez14413 => ?_)
                                    refine pm_R_ret pm_M236 (r := some (.int z14412)) rfl (pm_ret_i _) ?_
                                    show pm_R _ 284 134 [.ref 41, .int a0, .int a1, .int a2, .int a3, .int a4, .int x6_13848, .int x7_14379] [.int z14412, .int 1, .ref 41, .int z14394, .ref 41, .int x7_14379, .ref 70] _ _
                                    refine sf_R_lany pm_M284 (pc' := 135) (st := [.int 1, .ref 41, .int z14394, .ref 41, .int x7_14379, .ref 70]) (pm_q284_1 (Nat.le_of_ble_eq_true rfl)) rfl rfl (fun z14414 => ?_)
                                    refine pm_R_cs pm_M284 (pc' := 138) (ra := [.long z14414]) (rest := [.int 1, .ref 41, .int z14394, .ref 41, .int x7_14379, .ref 70]) (ls' := [.long z14414, pm_no, pm_no, pm_no]) (pm_q284_1 (Nat.le_of_ble_eq_true rfl)) rfl (Or.inl rfl) pm_M222 rfl rfl (Nat.le_of_ble_eq_true rfl) rfl rfl ?_
                                    refine rf_c222 (d := d + 1)  (fun r14415 B14416 => ?_)
                                    show pm_R _ 284 138 [.ref 41, .int a0, .int a1, .int a2, .int a3, .int a4, .int x6_13848, .int x7_14379] [.int r14415, .int 1, .ref 41, .int z14394, .ref 41, .int x7_14379, .ref 70] _ _
                                    refine sf_R_iadd pm_M284 (pc' := 139) (pm_q284_1 (Nat.le_of_ble_eq_true rfl)) rfl sf_k1 B14416 (by decide) (by decide) (fun z14423 e14424 B14425 => ?_)
                                    refine pm_R_cv pm_M284 (pc' := 142) (a := 41) (ra := [.int z14423]) (rest := [.int z14394, .ref 41, .int x7_14379, .ref 70]) (ls' := [.ref 41, .int z14423]) (pm_q284_1 (Nat.le_of_ble_eq_true rfl)) rfl (Or.inl rfl) pm_M285 T_14379.2.1 rfl (by decide) (Nat.lt_of_lt_of_le (by decide) T_14379.1) rfl rfl (Nat.le_of_ble_eq_true rfl) rfl rfl ?_
                                    refine pm_R_lo pm_M285 (pc' := 1) rfl rfl rfl ?_
                                    refine pm_R_lo pm_M285 (pc' := 2) rfl rfl rfl ?_
                                    refine rf_R_get pm_M285 T_14379 (pc' := 5) (v := .int (m_14379 50)) rfl rfl rfl rfl ?_
                                    refine pm_R_ldcw pm_M285 (pc' := 8) rfl rfl rfl ?_
                                    refine sf_R_iany pm_M285 (pc' := 9) (st := [.ref 41]) rfl rfl rfl (fun z14429 => ?_)
                                    refine pm_R_op pm_M285 (pc' := 12) (st' := [.int 12345, .int z14429, .ref 41]) rfl rfl rfl ?_
                                    refine sf_R_iany pm_M285 (pc' := 13) (st := [.ref 41]) rfl rfl rfl (fun z14433 => ?_)
                                    refine rf_R_put pm_M285 T_14379 (pc' := 16) rfl rfl rfl (by decide) rfl rfl (sf_any _) rfl rfl (fun h14434 m14437 em14438 T14435 F14436 => ?_)
                                    have F14439 := F_14379.trans F14436 (by decide)
                                    have B14440 : sf_B 1 12 (m14437 24) := by rw [em14438]; exact B14382
                                    have B14441 : sf_B (-2147483648) 2147483647 (m14437 50) := by rw [em14438]; exact (sf_any z14433)
                                    have ek14442 : (m14437 50).toInt = (z14433).toInt := by rw [em14438]; rfl
                                    have W14443 : rf_W [0, 23, 24, 26, 50] m m14437 := by rw [em14438]; exact W14383.put (by decide)
                                    have W14444 : rf_W [50] m_11221 m14437 := by rw [em14438]; exact W14384.put (by decide)
                                    have W14445 : rf_W [50] m_13848 m14437 := by rw [em14438]; exact W_14379.put (by decide)
                                    refine pm_R_lo pm_M285 (pc' := 17) rfl rfl rfl ?_
                                    refine rf_R_get pm_M285 T14435 (pc' := 20) (v := .int (m14437 50)) rfl rfl rfl rfl ?_
                                    refine pm_R_op pm_M285 (pc' := 22) (st' := [.int 16, .int (m14437 50)]) rfl rfl rfl ?_
                                    refine sf_R_iany pm_M285 (pc' := 23) (st := []) rfl rfl rfl (fun z14449 => ?_)
                                    refine pm_R_lo pm_M285 (pc' := 24) rfl rfl rfl ?_
                                    refine sf_R_iremA pm_M285 (pc' := 25) rfl rfl (sf_neq1 B14425 sf_k0 (by decide)) (fun z14450 => ?_)
                                    refine pm_R_ret pm_M285 (r := some (.int z14450)) rfl (pm_ret_i _) ?_
                                    show pm_R _ 284 142 [.ref 41, .int a0, .int a1, .int a2, .int a3, .int a4, .int x6_13848, .int x7_14379] [.int z14450, .int z14394, .ref 41, .int x7_14379, .ref 70] _ _
                                    refine pm_R_cv pm_M284 (pc' := 145) (a := 41) (ra := [.int z14450, .int z14394]) (rest := [.int x7_14379, .ref 70]) (ls' := [.ref 41, .int z14394, .int z14450, pm_no, pm_no]) (pm_q284_1 (Nat.le_of_ble_eq_true rfl)) rfl (Or.inl rfl) pm_M286 T14435.2.1 rfl (by decide) (Nat.lt_of_lt_of_le (by decide) T14435.1) rfl rfl (Nat.le_of_ble_eq_true rfl) rfl rfl ?_
                                    refine rf_c286 (d := d + 1) T14435 B14396 (fun r14453 B14454 => ?_)
                                    show pm_R _ 284 145 [.ref 41, .int a0, .int a1, .int a2, .int a3, .int a4, .int x6_13848, .int x7_14379] [.int r14453, .int x7_14379, .ref 70] _ _
                                    have e14461 := (F14436.cell (by decide) e14392)
                                    refine rf_R_ist pm_M284 T14435 (pc' := 146) (pm_q284_1 (Nat.le_of_ble_eq_true rfl)) e14461 (by decide) (by decide) (sf_in B14390 (by decide) (by decide)) ⟨_, rfl, sf_upd b14393 B14454 _⟩ rfl (fun h14462 T14463 F14464 e14465 => ?_)
                                    have F14466 := F14439.trans F14464 (by decide)
                                    refine sf_R_iinc pm_M284 (pc' := 149) (ls' := fun z => [.ref 41, .int a0, .int a1, .int a2, .int a3, .int a4, .int x6_13848, .int z]) (pm_q284_1 (Nat.le_of_ble_eq_true rfl)) B14390 rfl (by decide) (by decide) (by decide) (fun _ => rfl) rfl (fun z14467 e14468 B14469 => ?_)
                                    show pm_R _ 284 149 [.ref 41, .int a0, .int a1, .int a2, .int a3, .int a4, .int x6_13848, .int z14467] [] _ _
                                    refine pm_R_br pm_M284 (pc' := 98) (pm_q284_1 (Nat.le_of_ble_eq_true rfl)) rfl ?_
                                    exact ih_14379 _ (sf_up hN_14379 e14468 B14390 (by decide) (by decide)) h14462 m14437 w_14379 z14467 T14463 F14466 W14445 (sf_weak B14469 (by decide) (by decide)) rfl
                              exact L_14379 _ h_13848 m_13848 w_13848 0 T_13848 F_13848 (rf_W.refl _ _) (sf_weak sf_k0 (by decide) (by decide)) rfl
                        exact L_13848 _ h_11221 m_11221 w_11221 0 (pm_no) T_11221 F_11221 (rf_W.refl _ _) (sf_weak sf_k0 (by decide) (by decide)) rfl rfl
                      · have B14470 : sf_B 0 11 x6_11221 := sf_ltL (Int32.not_le.mp c11226) Bx6_11221 B11224
                        refine pm_R_lo pm_M284 (pc' := 60) rfl rfl rfl ?_
                        refine rf_R_get pm_M284 T_11221 (pc' := 63) (v := .ref 70) rfl rfl rfl rfl ?_
                        refine pm_R_lo pm_M284 (pc' := 65) rfl rfl rfl ?_
                        refine pm_R_lo pm_M284 (pc' := 66) rfl rfl rfl ?_
                        refine rf_R_get pm_M284 T_11221 (pc' := 69) (v := .ref 48) rfl rfl rfl rfl ?_
                        refine pm_R_op pm_M284 (pc' := 71) (st' := [.int 13, .ref 48, .int x6_11221, .ref 70]) rfl rfl rfl ?_
                        refine pm_R_lo pm_M284 (pc' := 72) rfl rfl rfl ?_
                        refine sf_R_imul pm_M284 (pc' := 73) rfl rfl sf_k13 B42 (by decide) (by decide) (by decide) (fun z14471 e14472 B14473 => ?_)
                        refine pm_R_op pm_M284 (pc' := 74) (st' := [.int 1, .int z14471, .ref 48, .int x6_11221, .ref 70]) rfl rfl rfl ?_
                        refine sf_R_iadd pm_M284 (pc' := 75) rfl rfl B14473 sf_k1 (by decide) (by decide) (fun z14474 e14475 B14476 => ?_)
                        refine pm_R_lo pm_M284 (pc' := 77) rfl rfl rfl ?_
                        refine sf_R_iadd pm_M284 (pc' := 78) rfl rfl B14476 B14470 (by decide) (by decide) (fun z14477 e14478 B14479 => ?_)
                        obtain ⟨f14480, e14481, b14482⟩ := T_11221.2.2.2.1 48 (by decide) (by decide)
                        refine rf_R_ild pm_M284 T_11221 (pc' := 79) rfl e14481 (by decide) (sf_in B14479 (by decide) (by decide)) rfl (fun z14483 ez14484 => ?_)
                        have e14485 : (z14477).toInt = 13 * (a1).toInt + 1 * (x6_11221).toInt + 1 := (sf_aux14 _ _ _ _ _ e14472 e14475 e14478)
                        have B14486 : sf_B 0 9 z14483 := ez14484 ▸ rf_p48s b14482 e14485 B42 B14470 (by decide) (by decide) (by decide)
                        obtain ⟨f14487, e14488, b14489⟩ := T_11221.2.2.2.1 70 (by decide) (by decide)
                        refine rf_R_ist pm_M284 T_11221 (pc' := 80) rfl e14488 (by decide) (by decide) (sf_in B14470 (by decide) (by decide)) ⟨_, rfl, sf_upd b14489 B14486 _⟩ rfl (fun h14490 T14491 F14492 e14493 => ?_)
                        have F14494 := F_11221.trans F14492 (by decide)
                        refine sf_R_iinc pm_M284 (pc' := 83) (ls' := fun z => [.ref 41, .int a0, .int a1, .int a2, .int a3, .int a4, .int z, pm_no]) rfl B14470 rfl (by decide) (by decide) (by decide) (fun _ => rfl) rfl (fun z14495 e14496 B14497 => ?_)
                        show pm_R _ 284 83 [.ref 41, .int a0, .int a1, .int a2, .int a3, .int a4, .int z14495, pm_no] [] _ _
                        refine pm_R_br pm_M284 (pc' := 50) rfl rfl ?_
                        exact ih_11221 _ (sf_up hN_11221 e14496 B14470 (by decide) (by decide)) h14490 m_11221 w_11221 z14495 T14491 F14494 W_11221 (sf_weak B14497 (by decide) (by decide)) rfl
                  exact L_11221 _ h65 m68 w47 0 T66 F70 (rf_W.refl _ _) (sf_weak sf_k0 (by decide) (by decide)) rfl

set_option maxRecDepth 100000 in
set_option maxHeartbeats 4000000 in
/-- SilentTableModel.all -/
theorem rf_c287 {d : Nat} {m : Nat → Int32} {w : Int64} {h : pm_H} {Q : Option Value → pm_H → Prop} {a0 : Int32} {a1 : Int32} {a2 : Int32} (T : rf_T m w h)  (K : ∀ (r : Int64) (m' : Nat → Int32) (w' : Int64) (h' : pm_H), rf_T m' w' h' → rf_G [41, 53, 55] h h' → rf_W [0, 23, 24, 26] m m' → Q (some (.long r)) h') : pm_R (d + 5) 287 0 [.ref 41, .int a0, .int a1, .int a2, pm_no, pm_no, pm_no, pm_no, pm_no, pm_no, pm_no, pm_no, pm_no] [] h Q := by
  refine pm_R_lo pm_M287 (pc' := 1) rfl rfl rfl ?_
  refine pm_R_op pm_M287 (pc' := 2) (st' := [.int 0, .ref 41]) rfl rfl rfl ?_
  refine rf_R_put pm_M287 T (pc' := 5) rfl rfl rfl (by decide) rfl rfl sf_k0 rfl rfl (fun h1 m4 em5 T2 F3 => ?_)
  have F6 := (rf_G.refl [41, 53, 55] h).trans F3 (by decide)
  have B7 : sf_B 0 0 (m4 0) := by rw [em5]; exact sf_k0
  have W9 : rf_W [0, 23, 24, 26] m m4 := by rw [em5]; exact (rf_W.refl [0, 23, 24, 26] m).put (by decide)
  refine pm_R_lo pm_M287 (pc' := 6) rfl rfl rfl ?_
  refine pm_R_op pm_M287 (pc' := 7) (st' := [.int 0, .ref 41]) rfl rfl rfl ?_
  refine pm_R_lo pm_M287 (pc' := 8) rfl rfl rfl ?_
  refine pm_R_cv pm_M287 (pc' := 11) (a := 41) (ra := [.int a0, .int 0]) (rest := []) (ls' := [.ref 41, .int 0, .int a0]) rfl rfl (Or.inl rfl) pm_M177 T2.2.1 rfl (by decide) (Nat.lt_of_lt_of_le (by decide) T2.1) rfl rfl (Nat.le_of_ble_eq_true rfl) rfl rfl ?_
  refine pm_R_lo pm_M177 (pc' := 1) rfl rfl rfl ?_
  refine pm_R_op pm_M177 (pc' := 2) (st' := [.int 0, .int a0]) rfl rfl rfl ?_
  refine pm_R_lo pm_M177 (pc' := 3) rfl rfl rfl ?_
  refine rf_R_get pm_M177 T2 (pc' := 6) (v := .ref 46) rfl rfl rfl rfl ?_
  refine pm_R_lo pm_M177 (pc' := 7) rfl rfl rfl ?_
  obtain ⟨f10, e11, b12⟩ := T2.2.2.2.1 46 (by decide) (by decide)
  refine rf_R_ild pm_M177 T2 (pc' := 8) rfl e11 (by decide) rfl rfl (fun z13 ez14 => ?_)
  have B15 : sf_B 0 2 z13 := ez14 ▸ (b12 0)
  refine pm_R_op pm_M177 (pc' := 9) (st' := [.int 1, .int z13, .int 0, .int a0]) rfl rfl rfl ?_
  refine sf_R_isub pm_M177 (pc' := 10) rfl rfl B15 sf_k1 (by decide) (by decide) (fun z16 e17 B18 => ?_)
  refine pm_R_cs pm_M177 (pc' := 13) (ra := [.int z16, .int 0, .int a0]) (rest := []) (ls' := [.int a0, .int 0, .int z16]) rfl rfl (Or.inl rfl) pm_M174 rfl rfl (Nat.le_of_ble_eq_true rfl) rfl rfl ?_
  refine pm_R_lo pm_M174 (pc' := 1) rfl rfl rfl ?_
  refine pm_R_lo pm_M174 (pc' := 2) rfl rfl rfl ?_
  refine pm_R_icmp pm_M174 (t := 14) (pc' := 5) rfl rfl rfl (fun c19 => ?_) (fun c19 => ?_)
  · have B20 : sf_B (-2147483648) (-1) a0 := sf_ltL c19 (sf_any a0) sf_k0
    refine pm_R_op pm_M174 (pc' := 15) (st' := [.int 0]) rfl rfl rfl ?_
    refine pm_R_ret pm_M174 (r := some (.int 0)) rfl rfl ?_
    show pm_R _ 177 13 [.ref 41, .int 0, .int a0] [.int 0] _ _
    refine pm_R_ret pm_M177 (r := some (.int 0)) rfl rfl ?_
    show pm_R _ 287 11 [.ref 41, .int a0, .int a1, .int a2, pm_no, pm_no, pm_no, pm_no, pm_no, pm_no, pm_no, pm_no, pm_no] [.int 0] _ _
    refine pm_R_br pm_M287 (pc' := 32) (st' := []) rfl rfl ?_
    refine pm_R_ldc2 pm_M287 (pc' := 35) rfl rfl rfl ?_
    exact pm_R_ret pm_M287 (r := some (.long (-1))) rfl rfl (K (-1) m4 w h1 T2 F6 W9)
  · have B21 : sf_B 0 2147483647 a0 := sf_leR (Int32.not_lt.mp c19) sf_k0 (sf_any a0)
    refine pm_R_lo pm_M174 (pc' := 6) rfl rfl rfl ?_
    refine pm_R_lo pm_M174 (pc' := 7) rfl rfl rfl ?_
    refine pm_R_icmp pm_M174 (t := 14) (pc' := 10) rfl rfl rfl (fun c22 => ?_) (fun c22 => ?_)
    · skip
      refine pm_R_op pm_M174 (pc' := 15) (st' := [.int 0]) rfl rfl rfl ?_
      refine pm_R_ret pm_M174 (r := some (.int 0)) rfl rfl ?_
      show pm_R _ 177 13 [.ref 41, .int 0, .int a0] [.int 0] _ _
      refine pm_R_ret pm_M177 (r := some (.int 0)) rfl rfl ?_
      show pm_R _ 287 11 [.ref 41, .int a0, .int a1, .int a2, pm_no, pm_no, pm_no, pm_no, pm_no, pm_no, pm_no, pm_no, pm_no] [.int 0] _ _
      refine pm_R_br pm_M287 (pc' := 32) (st' := []) rfl rfl ?_
      refine pm_R_ldc2 pm_M287 (pc' := 35) rfl rfl rfl ?_
      exact pm_R_ret pm_M287 (r := some (.long (-1))) rfl rfl (K (-1) m4 w h1 T2 F6 W9)
    · have B23 : sf_B 0 1 a0 := sf_leL (Int32.not_lt.mp c22) B21 B18
      have B24 : sf_B 0 1 z16 := sf_leR (Int32.not_lt.mp c22) B21 B18
      refine pm_R_op pm_M174 (pc' := 11) (st' := [.int 1]) rfl rfl rfl ?_
      refine pm_R_br pm_M174 (pc' := 15) rfl rfl ?_
      refine pm_R_ret pm_M174 (r := some (.int 1)) rfl rfl ?_
      show pm_R _ 177 13 [.ref 41, .int 0, .int a0] [.int 1] _ _
      refine pm_R_ret pm_M177 (r := some (.int 1)) rfl rfl ?_
      show pm_R _ 287 11 [.ref 41, .int a0, .int a1, .int a2, pm_no, pm_no, pm_no, pm_no, pm_no, pm_no, pm_no, pm_no, pm_no] [.int 1] _ _
      refine pm_R_br pm_M287 (pc' := 14) (st' := []) rfl rfl ?_
      refine pm_R_lo pm_M287 (pc' := 15) rfl rfl rfl ?_
      refine pm_R_op pm_M287 (pc' := 16) (st' := [.int 1, .int a1]) rfl rfl rfl ?_
      refine pm_R_op pm_M287 (pc' := 17) (st' := [.int 4, .int 1, .int a1]) rfl rfl rfl ?_
      refine pm_R_cs pm_M287 (pc' := 20) (ra := [.int 4, .int 1, .int a1]) (rest := []) (ls' := [.int a1, .int 1, .int 4]) rfl rfl (Or.inl rfl) pm_M174 rfl rfl (Nat.le_of_ble_eq_true rfl) rfl rfl ?_
      refine pm_R_lo pm_M174 (pc' := 1) rfl rfl rfl ?_
      refine pm_R_lo pm_M174 (pc' := 2) rfl rfl rfl ?_
      refine pm_R_icmp pm_M174 (t := 14) (pc' := 5) rfl rfl rfl (fun c25 => ?_) (fun c25 => ?_)
      · have B26 : sf_B (-2147483648) 0 a1 := sf_ltL c25 (sf_any a1) sf_k1
        refine pm_R_op pm_M174 (pc' := 15) (st' := [.int 0]) rfl rfl rfl ?_
        refine pm_R_ret pm_M174 (r := some (.int 0)) rfl rfl ?_
        show pm_R _ 287 20 [.ref 41, .int a0, .int a1, .int a2, pm_no, pm_no, pm_no, pm_no, pm_no, pm_no, pm_no, pm_no, pm_no] [.int 0] _ _
        refine pm_R_br pm_M287 (pc' := 32) (st' := []) rfl rfl ?_
        refine pm_R_ldc2 pm_M287 (pc' := 35) rfl rfl rfl ?_
        exact pm_R_ret pm_M287 (r := some (.long (-1))) rfl rfl (K (-1) m4 w h1 T2 F6 W9)
      · have B27 : sf_B 1 2147483647 a1 := sf_leR (Int32.not_lt.mp c25) sf_k1 (sf_any a1)
        refine pm_R_lo pm_M174 (pc' := 6) rfl rfl rfl ?_
        refine pm_R_lo pm_M174 (pc' := 7) rfl rfl rfl ?_
        refine pm_R_icmp pm_M174 (t := 14) (pc' := 10) rfl rfl rfl (fun c28 => ?_) (fun c28 => ?_)
        · have B29 : sf_B 5 2147483647 a1 := sf_ltR c28 sf_k4 B27
          refine pm_R_op pm_M174 (pc' := 15) (st' := [.int 0]) rfl rfl rfl ?_
          refine pm_R_ret pm_M174 (r := some (.int 0)) rfl rfl ?_
          show pm_R _ 287 20 [.ref 41, .int a0, .int a1, .int a2, pm_no, pm_no, pm_no, pm_no, pm_no, pm_no, pm_no, pm_no, pm_no] [.int 0] _ _
          refine pm_R_br pm_M287 (pc' := 32) (st' := []) rfl rfl ?_
          refine pm_R_ldc2 pm_M287 (pc' := 35) rfl rfl rfl ?_
          exact pm_R_ret pm_M287 (r := some (.long (-1))) rfl rfl (K (-1) m4 w h1 T2 F6 W9)
        · have B30 : sf_B 1 4 a1 := sf_leL (Int32.not_lt.mp c28) B27 sf_k4
          refine pm_R_op pm_M174 (pc' := 11) (st' := [.int 1]) rfl rfl rfl ?_
          refine pm_R_br pm_M174 (pc' := 15) rfl rfl ?_
          refine pm_R_ret pm_M174 (r := some (.int 1)) rfl rfl ?_
          show pm_R _ 287 20 [.ref 41, .int a0, .int a1, .int a2, pm_no, pm_no, pm_no, pm_no, pm_no, pm_no, pm_no, pm_no, pm_no] [.int 1] _ _
          refine pm_R_br pm_M287 (pc' := 23) (st' := []) rfl rfl ?_
          refine pm_R_lo pm_M287 (pc' := 24) rfl rfl rfl ?_
          refine pm_R_op pm_M287 (pc' := 25) (st' := [.int 0, .int a2]) rfl rfl rfl ?_
          refine pm_R_op pm_M287 (pc' := 26) (st' := [.int 2, .int 0, .int a2]) rfl rfl rfl ?_
          refine pm_R_cs pm_M287 (pc' := 29) (ra := [.int 2, .int 0, .int a2]) (rest := []) (ls' := [.int a2, .int 0, .int 2]) rfl rfl (Or.inl rfl) pm_M174 rfl rfl (Nat.le_of_ble_eq_true rfl) rfl rfl ?_
          refine pm_R_lo pm_M174 (pc' := 1) rfl rfl rfl ?_
          refine pm_R_lo pm_M174 (pc' := 2) rfl rfl rfl ?_
          refine pm_R_icmp pm_M174 (t := 14) (pc' := 5) rfl rfl rfl (fun c31 => ?_) (fun c31 => ?_)
          · have B32 : sf_B (-2147483648) (-1) a2 := sf_ltL c31 (sf_any a2) sf_k0
            refine pm_R_op pm_M174 (pc' := 15) (st' := [.int 0]) rfl rfl rfl ?_
            refine pm_R_ret pm_M174 (r := some (.int 0)) rfl rfl ?_
            show pm_R _ 287 29 [.ref 41, .int a0, .int a1, .int a2, pm_no, pm_no, pm_no, pm_no, pm_no, pm_no, pm_no, pm_no, pm_no] [.int 0] _ _
            refine pm_R_br pm_M287 (pc' := 32) (st' := []) rfl rfl ?_
            refine pm_R_ldc2 pm_M287 (pc' := 35) rfl rfl rfl ?_
            exact pm_R_ret pm_M287 (r := some (.long (-1))) rfl rfl (K (-1) m4 w h1 T2 F6 W9)
          · have B33 : sf_B 0 2147483647 a2 := sf_leR (Int32.not_lt.mp c31) sf_k0 (sf_any a2)
            refine pm_R_lo pm_M174 (pc' := 6) rfl rfl rfl ?_
            refine pm_R_lo pm_M174 (pc' := 7) rfl rfl rfl ?_
            refine pm_R_icmp pm_M174 (t := 14) (pc' := 10) rfl rfl rfl (fun c34 => ?_) (fun c34 => ?_)
            · have B35 : sf_B 3 2147483647 a2 := sf_ltR c34 sf_k2 B33
              refine pm_R_op pm_M174 (pc' := 15) (st' := [.int 0]) rfl rfl rfl ?_
              refine pm_R_ret pm_M174 (r := some (.int 0)) rfl rfl ?_
              show pm_R _ 287 29 [.ref 41, .int a0, .int a1, .int a2, pm_no, pm_no, pm_no, pm_no, pm_no, pm_no, pm_no, pm_no, pm_no] [.int 0] _ _
              refine pm_R_br pm_M287 (pc' := 32) (st' := []) rfl rfl ?_
              refine pm_R_ldc2 pm_M287 (pc' := 35) rfl rfl rfl ?_
              exact pm_R_ret pm_M287 (r := some (.long (-1))) rfl rfl (K (-1) m4 w h1 T2 F6 W9)
            · have B36 : sf_B 0 2 a2 := sf_leL (Int32.not_lt.mp c34) B33 sf_k2
              refine pm_R_op pm_M174 (pc' := 11) (st' := [.int 1]) rfl rfl rfl ?_
              refine pm_R_br pm_M174 (pc' := 15) rfl rfl ?_
              refine pm_R_ret pm_M174 (r := some (.int 1)) rfl rfl ?_
              show pm_R _ 287 29 [.ref 41, .int a0, .int a1, .int a2, pm_no, pm_no, pm_no, pm_no, pm_no, pm_no, pm_no, pm_no, pm_no] [.int 1] _ _
              refine pm_R_br pm_M287 (pc' := 36) (st' := []) rfl rfl ?_
              refine pm_R_lo pm_M287 (pc' := 37) rfl rfl rfl ?_
              refine pm_R_lo pm_M287 (pc' := 38) rfl rfl rfl ?_
              refine rf_R_put pm_M287 T2 (pc' := 41) rfl rfl rfl (by decide) rfl rfl B23 rfl rfl (fun h37 m40 em41 T38 F39 => ?_)
              have F42 := F6.trans F39 (by decide)
              have B43 : sf_B 0 1 (m40 23) := by rw [em41]; exact B23
              have ek44 : (m40 23).toInt = (a0).toInt := by rw [em41]; rfl
              have W45 : rf_W [0, 23, 24, 26] m m40 := by rw [em41]; exact W9.put (by decide)
              refine pm_R_op pm_M287 (pc' := 42) (st' := [.long 0]) rfl rfl rfl ?_
              refine pm_R_lo pm_M287 (pc' := 44) (ls' := [.ref 41, .int a0, .int a1, .int a2, .long 0, pm_no, pm_no, pm_no, pm_no, pm_no, pm_no, pm_no, pm_no]) (st' := []) rfl rfl rfl ?_
              refine pm_R_op pm_M287 (pc' := 45) (st' := [.long 0]) rfl rfl rfl ?_
              refine pm_R_lo pm_M287 (pc' := 47) (ls' := [.ref 41, .int a0, .int a1, .int a2, .long 0, pm_no, .long 0, pm_no, pm_no, pm_no, pm_no, pm_no, pm_no]) (st' := []) rfl rfl rfl ?_
              refine pm_R_op pm_M287 (pc' := 48) (st' := [.long 0]) rfl rfl rfl ?_
              refine pm_R_lo pm_M287 (pc' := 50) (ls' := [.ref 41, .int a0, .int a1, .int a2, .long 0, pm_no, .long 0, pm_no, .long 0, pm_no, pm_no, pm_no, pm_no]) (st' := []) rfl rfl rfl ?_
              refine pm_R_op pm_M287 (pc' := 51) (st' := [.int 0]) rfl rfl rfl ?_
              refine pm_R_lo pm_M287 (pc' := 53) (ls' := [.ref 41, .int a0, .int a1, .int a2, .long 0, pm_no, .long 0, pm_no, .long 0, pm_no, .int 0, pm_no, pm_no]) (st' := []) rfl rfl rfl ?_
              have L_912 : ∀ (N : Nat) (h_912 : pm_H) (m_912 : Nat → Int32) (w_912 : Int64) (x10_912 : Int32) (y4_912 : Int64) (y6_912 : Int64) (y8_912 : Int64) (g11_912 : Value) (g12_912 : Value), rf_T m_912 w_912 h_912 → rf_G [41, 53, 55] h h_912 → rf_W [24, 26] m40 m_912 → sf_B 0 2147483647 x10_912 → lf_B 0 1000000000000 y8_912 → g12_912.category = 1 → (2147483647 - x10_912.toInt).toNat = N → pm_R (d + 5) 287 53 [.ref 41, .int a0, .int a1, .int a2, .long y4_912, pm_no, .long y6_912, pm_no, .long y8_912, pm_no, .int x10_912, g11_912, g12_912] [] h_912 Q := by
                intro N
                induction N using Nat.strongRecOn with
                | ind N ih_912 =>
                  intro h_912 m_912 w_912 x10_912 y4_912 y6_912 y8_912 g11_912 g12_912 T_912 F_912 W_912 Bx10_912 By8_912 Cg12_912 hN_912
                  have W915 : rf_W [0, 23, 24, 26] m m_912 := W45.trans W_912 (by decide)
                  refine pm_R_lo pm_M287 (pc' := 55) rfl rfl rfl ?_
                  refine pm_R_lo pm_M287 (pc' := 56) rfl rfl rfl ?_
                  refine pm_R_cs pm_M287 (pc' := 59) (ra := [.int a1]) (rest := [.int x10_912]) (ls' := [.int a1, pm_no, pm_no]) rfl rfl (Or.inl rfl) pm_M242 rfl rfl (Nat.le_of_ble_eq_true rfl) rfl rfl ?_
                  refine rf_c242 (d := d + 4) (sf_weak B30 (by decide) (by decide)) (fun r916 => ?_)
                  show pm_R _ 287 59 [.ref 41, .int a0, .int a1, .int a2, .long y4_912, pm_no, .long y6_912, pm_no, .long y8_912, pm_no, .int x10_912, g11_912, g12_912] [.int r916, .int x10_912] _ _
                  refine pm_R_icmp pm_M287 (t := 145) (pc' := 62) rfl rfl rfl (fun c924 => ?_) (fun c924 => ?_)
                  · skip
                    refine pm_R_lo pm_M287 (pc' := 146) (pm_q287_1 (Nat.le_of_ble_eq_true rfl)) rfl rfl ?_
                    refine pm_R_ifc pm_M287 (t := 154) (pc' := 149) (pm_q287_1 (Nat.le_of_ble_eq_true rfl)) rfl rfl (fun c925 => ?_) (fun c925 => ?_)
                    · have B926 : sf_B 1 2 a2 := sf_neL0 c925 sf_k0 B36
                      refine pm_R_lo pm_M287 (pc' := 155) (pm_q287_1 (Nat.le_of_ble_eq_true rfl)) rfl rfl ?_
                      refine pm_R_op pm_M287 (pc' := 156) (st' := [.int 1, .int a2]) (pm_q287_1 (Nat.le_of_ble_eq_true rfl)) rfl rfl ?_
                      refine pm_R_icmp pm_M287 (t := 164) (pc' := 159) (pm_q287_1 (Nat.le_of_ble_eq_true rfl)) rfl rfl (fun c927 => ?_) (fun c927 => ?_)
                      · have B928 : sf_B 2 2 a2 := sf_neL0 c927 sf_k1 B926
                        refine pm_R_lo pm_M287 (pc' := 166) (pm_q287_1 (Nat.le_of_ble_eq_true rfl)) rfl rfl ?_
                        exact pm_R_ret pm_M287 (r := some (.long y8_912)) (pm_q287_1 (Nat.le_of_ble_eq_true rfl)) rfl (K y8_912 m_912 w_912 h_912 T_912 F_912 W915)
                      · have B929 : sf_B 1 1 a2 := sf_eqL (Classical.not_not.mp c927) sf_k1
                        refine pm_R_lo pm_M287 (pc' := 161) (pm_q287_1 (Nat.le_of_ble_eq_true rfl)) rfl rfl ?_
                        refine pm_R_br pm_M287 (pc' := 166) (pm_q287_1 (Nat.le_of_ble_eq_true rfl)) rfl ?_
                        exact pm_R_ret pm_M287 (r := some (.long y6_912)) (pm_q287_1 (Nat.le_of_ble_eq_true rfl)) rfl (K y6_912 m_912 w_912 h_912 T_912 F_912 W915)
                    · have B930 : sf_B 0 0 a2 := sf_eqL (Classical.not_not.mp c925) sf_k0
                      refine pm_R_lo pm_M287 (pc' := 151) (pm_q287_1 (Nat.le_of_ble_eq_true rfl)) rfl rfl ?_
                      refine pm_R_br pm_M287 (pc' := 166) (pm_q287_1 (Nat.le_of_ble_eq_true rfl)) rfl ?_
                      exact pm_R_ret pm_M287 (r := some (.long y4_912)) (pm_q287_1 (Nat.le_of_ble_eq_true rfl)) rfl (K y4_912 m_912 w_912 h_912 T_912 F_912 W915)
                  · have B931 : sf_B 0 2147483646 x10_912 := sf_ltL (Int32.not_le.mp c924) Bx10_912 (sf_any r916)
                    have B932 : sf_B 1 2147483647 r916 := sf_ltR (Int32.not_le.mp c924) Bx10_912 (sf_any r916)
                    refine pm_R_lo pm_M287 (pc' := 63) rfl rfl rfl ?_
                    refine pm_R_lo pm_M287 (pc' := 64) rfl rfl rfl ?_
                    refine pm_R_lo pm_M287 (pc' := 66) rfl rfl rfl ?_
                    refine pm_R_cv pm_M287 (pc' := 69) (a := 41) (ra := [.int x10_912, .int a1]) (rest := []) (ls' := [.ref 41, .int a1, .int x10_912, pm_no, pm_no]) rfl rfl (Or.inl rfl) pm_M244 T_912.2.1 rfl (by decide) (Nat.lt_of_lt_of_le (by decide) T_912.1) rfl rfl (Nat.le_of_ble_eq_true rfl) rfl rfl ?_
                    refine rf_c244 (d := d + 4) T_912 B30 (sf_weak B931 (by decide) (by decide)) (fun m935 w936 h937 T938 F939 W940 B941 => ?_)
                    have F942 := F_912.trans F939 (by decide)
                    have W943 : rf_W [0, 23, 24, 26] m m935 := W915.trans W940 (by decide)
                    have W944 : rf_W [24, 26] m40 m935 := W_912.trans W940 (by decide)
                    show pm_R _ 287 69 [.ref 41, .int a0, .int a1, .int a2, .long y4_912, pm_no, .long y6_912, pm_no, .long y8_912, pm_no, .int x10_912, g11_912, g12_912] [] _ _
                    refine pm_R_lo pm_M287 (pc' := 70) rfl rfl rfl ?_
                    refine pm_R_cv pm_M287 (pc' := 73) (a := 41) (ra := []) (rest := []) (ls' := [.ref 41, pm_no, pm_no, pm_no, pm_no, pm_no]) rfl rfl (Or.inl rfl) pm_M202 T938.2.1 rfl (by decide) (Nat.lt_of_lt_of_le (by decide) T938.1) rfl rfl (Nat.le_of_ble_eq_true rfl) rfl rfl ?_
                    refine rf_c202 (d := d + 0) T938  (fun m947 w948 h949 T950 F951 W952 => ?_)
                    have F953 := F942.trans F951 (by decide)
                    have B954 : sf_B 1 4 (m947 24) := by rw [W952 24 (by decide)]; exact B941
                    have W955 : rf_W [0, 23, 24, 26] m m947 := W943.trans W952 (by decide)
                    have W956 : rf_W [24, 26] m40 m947 := W944.trans W952 (by decide)
                    show pm_R _ 287 73 [.ref 41, .int a0, .int a1, .int a2, .long y4_912, pm_no, .long y6_912, pm_no, .long y8_912, pm_no, .int x10_912, g11_912, g12_912] [] _ _
                    refine pm_R_lo pm_M287 (pc' := 74) rfl rfl rfl ?_
                    refine rf_R_get pm_M287 T950 (pc' := 77) (v := .ref 55) rfl rfl rfl rfl ?_
                    refine pm_R_op pm_M287 (pc' := 78) (st' := [.int 0, .ref 55]) rfl rfl rfl ?_
                    refine pm_R_op pm_M287 (pc' := 79) (st' := [.int 0, .int 0, .ref 55]) rfl rfl rfl ?_
                    refine pm_R_lo pm_M287 (pc' := 80) rfl rfl rfl ?_
                    refine pm_R_op pm_M287 (pc' := 81) (st' := [.int 1, .int a1, .int 0, .int 0, .ref 55]) rfl rfl rfl ?_
                    refine sf_R_isub pm_M287 (pc' := 82) rfl rfl B30 sf_k1 (by decide) (by decide) (fun z957 e958 B959 => ?_)
                    refine pm_R_cs pm_M287 (pc' := 85) (ra := [.int z957, .int 0, .int 0]) (rest := [.ref 55]) (ls' := [.int 0, .int 0, .int z957]) rfl rfl (Or.inl rfl) pm_M207 rfl rfl (Nat.le_of_ble_eq_true rfl) rfl rfl ?_
                    refine pm_R_op pm_M207 (pc' := 3) (st' := [.int 144]) rfl rfl rfl ?_
                    refine pm_R_lo pm_M207 (pc' := 4) rfl rfl rfl ?_
                    refine pm_R_op pm_M207 (pc' := 5) (st' := [.int 0]) rfl rfl rfl ?_
                    refine pm_R_op pm_M207 (pc' := 7) (st' := [.int 12, .int 0]) rfl rfl rfl ?_
                    refine pm_R_lo pm_M207 (pc' := 8) rfl rfl rfl ?_
                    refine pm_R_op pm_M207 (pc' := 9) (st' := [.int 0, .int 0]) rfl rfl rfl ?_
                    refine pm_R_op pm_M207 (pc' := 10) (st' := [.int 0]) rfl rfl rfl ?_
                    refine pm_R_lo pm_M207 (pc' := 11) rfl rfl rfl ?_
                    refine sf_R_iadd pm_M207 (pc' := 12) rfl rfl sf_k0 B959 (by decide) (by decide) (fun z960 e961 B962 => ?_)
                    refine pm_R_ret pm_M207 (r := some (.int z960)) rfl (pm_ret_i _) ?_
                    show pm_R _ 287 85 [.ref 41, .int a0, .int a1, .int a2, .long y4_912, pm_no, .long y6_912, pm_no, .long y8_912, pm_no, .int x10_912, g11_912, g12_912] [.int z960, .ref 55] _ _
                    obtain ⟨f963, e964, b965⟩ := T950.2.2.2.1 55 (by decide) (by decide)
                    refine rf_R_lld pm_M287 T950 (pc' := 86) rfl e964 (by decide) (by decide) (sf_in B962 (by decide) (by decide)) rfl (fun z966 ez967 => ?_)
                    have B968 : lf_B 0 1000000000000 z966 := ez967 ▸ b965 _
                    refine pm_R_lo pm_M287 (pc' := 88) (ls' := [.ref 41, .int a0, .int a1, .int a2, .long y4_912, pm_no, .long y6_912, pm_no, .long y8_912, pm_no, .int x10_912, .long z966, pm_no]) (st' := []) rfl rfl rfl ?_
                    refine pm_R_lo pm_M287 (pc' := 90) rfl rfl rfl ?_
                    refine pm_R_lo pm_M287 (pc' := 92) rfl rfl rfl ?_
                    refine pm_R_op pm_M287 (pc' := 93) (st' := [.long 0, .long z966, .long y4_912]) rfl rfl rfl ?_
                    refine sf_R_lcmp pm_M287 (pc' := 94) rfl rfl (fun z969 e970 => ?_)
                    have B971 : sf_B 0 2147483647 z969 := sf_leR (Int32.not_lt.mp (lf_cmpGe e970 B968 (⟨by decide, by decide⟩ : lf_B 0 0 0) (by decide))) sf_k0 (sf_any z969)
                    refine pm_R_ifc pm_M287 (t := 101) (pc' := 97) rfl rfl rfl (fun c972 => ?_) (fun c972 => ?_)
                    · have B973 : sf_B 0 0 z969 := sf_leL c972 B971 sf_k0
                      have k974 := lf_ge e970 B973 (by decide)
                      refine pm_R_op pm_M287 (pc' := 102) (st' := [.long 0, .long y4_912]) rfl rfl rfl ?_
                      refine sf_R_lany pm_M287 (pc' := 103) (st := []) rfl rfl rfl (fun z975 => ?_)
                      refine pm_R_lo pm_M287 (pc' := 105) (ls' := [.ref 41, .int a0, .int a1, .int a2, .long z975, pm_no, .long y6_912, pm_no, .long y8_912, pm_no, .int x10_912, .long z966, pm_no]) (st' := []) (pm_q287_1 (Nat.le_of_ble_eq_true rfl)) rfl rfl ?_
                      refine pm_R_lo pm_M287 (pc' := 107) (pm_q287_1 (Nat.le_of_ble_eq_true rfl)) rfl rfl ?_
                      refine pm_R_lo pm_M287 (pc' := 109) (pm_q287_1 (Nat.le_of_ble_eq_true rfl)) rfl rfl ?_
                      refine pm_R_op pm_M287 (pc' := 110) (st' := [.long 1, .long z966, .long y6_912]) (pm_q287_1 (Nat.le_of_ble_eq_true rfl)) rfl rfl ?_
                      refine sf_R_lcmp pm_M287 (pc' := 111) (pm_q287_1 (Nat.le_of_ble_eq_true rfl)) rfl (fun z976 e977 => ?_)
                      refine pm_R_ifc pm_M287 (t := 118) (pc' := 114) (pm_q287_1 (Nat.le_of_ble_eq_true rfl)) rfl rfl (fun c978 => ?_) (fun c978 => ?_)
                      · have k979 := sf_lneC e977 c978
                        refine pm_R_op pm_M287 (pc' := 119) (st' := [.long 0, .long y6_912]) (pm_q287_1 (Nat.le_of_ble_eq_true rfl)) rfl rfl ?_
                        refine sf_R_lany pm_M287 (pc' := 120) (st := []) (pm_q287_1 (Nat.le_of_ble_eq_true rfl)) rfl rfl (fun z980 => ?_)
                        refine pm_R_lo pm_M287 (pc' := 122) (ls' := [.ref 41, .int a0, .int a1, .int a2, .long z975, pm_no, .long z980, pm_no, .long y8_912, pm_no, .int x10_912, .long z966, pm_no]) (st' := []) (pm_q287_1 (Nat.le_of_ble_eq_true rfl)) rfl rfl ?_
                        refine pm_R_lo pm_M287 (pc' := 124) (pm_q287_1 (Nat.le_of_ble_eq_true rfl)) rfl rfl ?_
                        refine pm_R_lo pm_M287 (pc' := 126) (pm_q287_1 (Nat.le_of_ble_eq_true rfl)) rfl rfl ?_
                        refine sf_R_lcmp pm_M287 (pc' := 127) (pm_q287_1 (Nat.le_of_ble_eq_true rfl)) rfl (fun z981 e982 => ?_)
                        refine pm_R_ifc pm_M287 (t := 135) (pc' := 130) (pm_q287_1 (Nat.le_of_ble_eq_true rfl)) rfl rfl (fun c983 => ?_) (fun c983 => ?_)
                        · have B984 : sf_B (-2147483648) 0 z981 := sf_leL c983 (sf_any z981) sf_k0
                          refine pm_R_lo pm_M287 (pc' := 137) (pm_q287_1 (Nat.le_of_ble_eq_true rfl)) rfl rfl ?_
                          refine pm_R_lo pm_M287 (pc' := 139) (ls' := [.ref 41, .int a0, .int a1, .int a2, .long z975, pm_no, .long z980, pm_no, .long y8_912, pm_no, .int x10_912, .long z966, pm_no]) (st' := []) (pm_q287_1 (Nat.le_of_ble_eq_true rfl)) rfl rfl ?_
                          refine sf_R_iinc pm_M287 (pc' := 142) (ls' := fun z => [.ref 41, .int a0, .int a1, .int a2, .long z975, pm_no, .long z980, pm_no, .long y8_912, pm_no, .int z, .long z966, pm_no]) (pm_q287_1 (Nat.le_of_ble_eq_true rfl)) B931 rfl (by decide) (by decide) (by decide) (fun _ => rfl) rfl (fun z985 e986 B987 => ?_)
                          show pm_R _ 287 142 [.ref 41, .int a0, .int a1, .int a2, .long z975, pm_no, .long z980, pm_no, .long y8_912, pm_no, .int z985, .long z966, pm_no] [] _ _
                          refine pm_R_br pm_M287 (pc' := 53) (pm_q287_1 (Nat.le_of_ble_eq_true rfl)) rfl ?_
                          exact ih_912 _ (sf_up hN_912 e986 B931 (by decide) (by decide)) h949 m947 w948 z985 z975 z980 y8_912 (.long z966) (pm_no) T950 F953 W956 (sf_weak B987 (by decide) (by decide)) By8_912 rfl rfl
                        · have B988 : sf_B 1 2147483647 z981 := sf_ltR (Int32.not_le.mp c983) sf_k0 (sf_any z981)
                          have k989 := lf_ge e982 B988 (by decide)
                          have k990 := sf_lneA e982 B988 (by decide)
                          refine pm_R_lo pm_M287 (pc' := 132) (pm_q287_1 (Nat.le_of_ble_eq_true rfl)) rfl rfl ?_
                          refine pm_R_br pm_M287 (pc' := 137) (pm_q287_1 (Nat.le_of_ble_eq_true rfl)) rfl ?_
                          refine pm_R_lo pm_M287 (pc' := 139) (ls' := [.ref 41, .int a0, .int a1, .int a2, .long z975, pm_no, .long z980, pm_no, .long z966, pm_no, .int x10_912, .long z966, pm_no]) (st' := []) (pm_q287_1 (Nat.le_of_ble_eq_true rfl)) rfl rfl ?_
                          refine sf_R_iinc pm_M287 (pc' := 142) (ls' := fun z => [.ref 41, .int a0, .int a1, .int a2, .long z975, pm_no, .long z980, pm_no, .long z966, pm_no, .int z, .long z966, pm_no]) (pm_q287_1 (Nat.le_of_ble_eq_true rfl)) B931 rfl (by decide) (by decide) (by decide) (fun _ => rfl) rfl (fun z991 e992 B993 => ?_)
                          show pm_R _ 287 142 [.ref 41, .int a0, .int a1, .int a2, .long z975, pm_no, .long z980, pm_no, .long z966, pm_no, .int z991, .long z966, pm_no] [] _ _
                          refine pm_R_br pm_M287 (pc' := 53) (pm_q287_1 (Nat.le_of_ble_eq_true rfl)) rfl ?_
                          exact ih_912 _ (sf_up hN_912 e992 B931 (by decide) (by decide)) h949 m947 w948 z991 z975 z980 z966 (.long z966) (pm_no) T950 F953 W956 (sf_weak B993 (by decide) (by decide)) B968 rfl rfl
                      · have B994 : sf_B 0 0 z976 := sf_eqL (Classical.not_not.mp c978) sf_k0
                        refine pm_R_op pm_M287 (pc' := 115) (st' := [.long 1, .long y6_912]) (pm_q287_1 (Nat.le_of_ble_eq_true rfl)) rfl rfl ?_
                        refine pm_R_br pm_M287 (pc' := 119) (pm_q287_1 (Nat.le_of_ble_eq_true rfl)) rfl ?_
                        refine sf_R_lany pm_M287 (pc' := 120) (st := []) (pm_q287_1 (Nat.le_of_ble_eq_true rfl)) rfl rfl (fun z995 => ?_)
                        refine pm_R_lo pm_M287 (pc' := 122) (ls' := [.ref 41, .int a0, .int a1, .int a2, .long z975, pm_no, .long z995, pm_no, .long y8_912, pm_no, .int x10_912, .long z966, pm_no]) (st' := []) (pm_q287_1 (Nat.le_of_ble_eq_true rfl)) rfl rfl ?_
                        refine pm_R_lo pm_M287 (pc' := 124) (pm_q287_1 (Nat.le_of_ble_eq_true rfl)) rfl rfl ?_
                        refine pm_R_lo pm_M287 (pc' := 126) (pm_q287_1 (Nat.le_of_ble_eq_true rfl)) rfl rfl ?_
                        refine sf_R_lcmp pm_M287 (pc' := 127) (pm_q287_1 (Nat.le_of_ble_eq_true rfl)) rfl (fun z996 e997 => ?_)
                        refine pm_R_ifc pm_M287 (t := 135) (pc' := 130) (pm_q287_1 (Nat.le_of_ble_eq_true rfl)) rfl rfl (fun c998 => ?_) (fun c998 => ?_)
                        · have B999 : sf_B (-2147483648) 0 z996 := sf_leL c998 (sf_any z996) sf_k0
                          refine pm_R_lo pm_M287 (pc' := 137) (pm_q287_1 (Nat.le_of_ble_eq_true rfl)) rfl rfl ?_
                          refine pm_R_lo pm_M287 (pc' := 139) (ls' := [.ref 41, .int a0, .int a1, .int a2, .long z975, pm_no, .long z995, pm_no, .long y8_912, pm_no, .int x10_912, .long z966, pm_no]) (st' := []) (pm_q287_1 (Nat.le_of_ble_eq_true rfl)) rfl rfl ?_
                          refine sf_R_iinc pm_M287 (pc' := 142) (ls' := fun z => [.ref 41, .int a0, .int a1, .int a2, .long z975, pm_no, .long z995, pm_no, .long y8_912, pm_no, .int z, .long z966, pm_no]) (pm_q287_1 (Nat.le_of_ble_eq_true rfl)) B931 rfl (by decide) (by decide) (by decide) (fun _ => rfl) rfl (fun z1000 e1001 B1002 => ?_)
                          show pm_R _ 287 142 [.ref 41, .int a0, .int a1, .int a2, .long z975, pm_no, .long z995, pm_no, .long y8_912, pm_no, .int z1000, .long z966, pm_no] [] _ _
                          refine pm_R_br pm_M287 (pc' := 53) (pm_q287_1 (Nat.le_of_ble_eq_true rfl)) rfl ?_
                          exact ih_912 _ (sf_up hN_912 e1001 B931 (by decide) (by decide)) h949 m947 w948 z1000 z975 z995 y8_912 (.long z966) (pm_no) T950 F953 W956 (sf_weak B1002 (by decide) (by decide)) By8_912 rfl rfl
                        · have B1003 : sf_B 1 2147483647 z996 := sf_ltR (Int32.not_le.mp c998) sf_k0 (sf_any z996)
                          have k1004 := lf_ge e997 B1003 (by decide)
                          have k1005 := sf_lneA e997 B1003 (by decide)
                          refine pm_R_lo pm_M287 (pc' := 132) (pm_q287_1 (Nat.le_of_ble_eq_true rfl)) rfl rfl ?_
                          refine pm_R_br pm_M287 (pc' := 137) (pm_q287_1 (Nat.le_of_ble_eq_true rfl)) rfl ?_
                          refine pm_R_lo pm_M287 (pc' := 139) (ls' := [.ref 41, .int a0, .int a1, .int a2, .long z975, pm_no, .long z995, pm_no, .long z966, pm_no, .int x10_912, .long z966, pm_no]) (st' := []) (pm_q287_1 (Nat.le_of_ble_eq_true rfl)) rfl rfl ?_
                          refine sf_R_iinc pm_M287 (pc' := 142) (ls' := fun z => [.ref 41, .int a0, .int a1, .int a2, .long z975, pm_no, .long z995, pm_no, .long z966, pm_no, .int z, .long z966, pm_no]) (pm_q287_1 (Nat.le_of_ble_eq_true rfl)) B931 rfl (by decide) (by decide) (by decide) (fun _ => rfl) rfl (fun z1006 e1007 B1008 => ?_)
                          show pm_R _ 287 142 [.ref 41, .int a0, .int a1, .int a2, .long z975, pm_no, .long z995, pm_no, .long z966, pm_no, .int z1006, .long z966, pm_no] [] _ _
                          refine pm_R_br pm_M287 (pc' := 53) (pm_q287_1 (Nat.le_of_ble_eq_true rfl)) rfl ?_
                          exact ih_912 _ (sf_up hN_912 e1007 B931 (by decide) (by decide)) h949 m947 w948 z1006 z975 z995 z966 (.long z966) (pm_no) T950 F953 W956 (sf_weak B1008 (by decide) (by decide)) B968 rfl rfl
                    · have B1009 : sf_B 1 2147483647 z969 := sf_ltR (Int32.not_le.mp c972) sf_k0 B971
                      have k1010 := lf_ge e970 B1009 (by decide)
                      have k1011 := sf_lneA e970 B1009 (by decide)
                      refine pm_R_op pm_M287 (pc' := 98) (st' := [.long 1, .long y4_912]) rfl rfl rfl ?_
                      refine pm_R_br pm_M287 (pc' := 102) rfl rfl ?_
                      refine sf_R_lany pm_M287 (pc' := 103) (st := []) rfl rfl rfl (fun z1012 => ?_)
                      refine pm_R_lo pm_M287 (pc' := 105) (ls' := [.ref 41, .int a0, .int a1, .int a2, .long z1012, pm_no, .long y6_912, pm_no, .long y8_912, pm_no, .int x10_912, .long z966, pm_no]) (st' := []) (pm_q287_1 (Nat.le_of_ble_eq_true rfl)) rfl rfl ?_
                      refine pm_R_lo pm_M287 (pc' := 107) (pm_q287_1 (Nat.le_of_ble_eq_true rfl)) rfl rfl ?_
                      refine pm_R_lo pm_M287 (pc' := 109) (pm_q287_1 (Nat.le_of_ble_eq_true rfl)) rfl rfl ?_
                      refine pm_R_op pm_M287 (pc' := 110) (st' := [.long 1, .long z966, .long y6_912]) (pm_q287_1 (Nat.le_of_ble_eq_true rfl)) rfl rfl ?_
                      refine sf_R_lcmp pm_M287 (pc' := 111) (pm_q287_1 (Nat.le_of_ble_eq_true rfl)) rfl (fun z1013 e1014 => ?_)
                      refine pm_R_ifc pm_M287 (t := 118) (pc' := 114) (pm_q287_1 (Nat.le_of_ble_eq_true rfl)) rfl rfl (fun c1015 => ?_) (fun c1015 => ?_)
                      · have k1016 := sf_lneC e1014 c1015
                        refine pm_R_op pm_M287 (pc' := 119) (st' := [.long 0, .long y6_912]) (pm_q287_1 (Nat.le_of_ble_eq_true rfl)) rfl rfl ?_
                        refine sf_R_lany pm_M287 (pc' := 120) (st := []) (pm_q287_1 (Nat.le_of_ble_eq_true rfl)) rfl rfl (fun z1017 => ?_)
                        refine pm_R_lo pm_M287 (pc' := 122) (ls' := [.ref 41, .int a0, .int a1, .int a2, .long z1012, pm_no, .long z1017, pm_no, .long y8_912, pm_no, .int x10_912, .long z966, pm_no]) (st' := []) (pm_q287_1 (Nat.le_of_ble_eq_true rfl)) rfl rfl ?_
                        refine pm_R_lo pm_M287 (pc' := 124) (pm_q287_1 (Nat.le_of_ble_eq_true rfl)) rfl rfl ?_
                        refine pm_R_lo pm_M287 (pc' := 126) (pm_q287_1 (Nat.le_of_ble_eq_true rfl)) rfl rfl ?_
                        refine sf_R_lcmp pm_M287 (pc' := 127) (pm_q287_1 (Nat.le_of_ble_eq_true rfl)) rfl (fun z1018 e1019 => ?_)
                        refine pm_R_ifc pm_M287 (t := 135) (pc' := 130) (pm_q287_1 (Nat.le_of_ble_eq_true rfl)) rfl rfl (fun c1020 => ?_) (fun c1020 => ?_)
                        · have B1021 : sf_B (-2147483648) 0 z1018 := sf_leL c1020 (sf_any z1018) sf_k0
                          refine pm_R_lo pm_M287 (pc' := 137) (pm_q287_1 (Nat.le_of_ble_eq_true rfl)) rfl rfl ?_
                          refine pm_R_lo pm_M287 (pc' := 139) (ls' := [.ref 41, .int a0, .int a1, .int a2, .long z1012, pm_no, .long z1017, pm_no, .long y8_912, pm_no, .int x10_912, .long z966, pm_no]) (st' := []) (pm_q287_1 (Nat.le_of_ble_eq_true rfl)) rfl rfl ?_
                          refine sf_R_iinc pm_M287 (pc' := 142) (ls' := fun z => [.ref 41, .int a0, .int a1, .int a2, .long z1012, pm_no, .long z1017, pm_no, .long y8_912, pm_no, .int z, .long z966, pm_no]) (pm_q287_1 (Nat.le_of_ble_eq_true rfl)) B931 rfl (by decide) (by decide) (by decide) (fun _ => rfl) rfl (fun z1022 e1023 B1024 => ?_)
                          show pm_R _ 287 142 [.ref 41, .int a0, .int a1, .int a2, .long z1012, pm_no, .long z1017, pm_no, .long y8_912, pm_no, .int z1022, .long z966, pm_no] [] _ _
                          refine pm_R_br pm_M287 (pc' := 53) (pm_q287_1 (Nat.le_of_ble_eq_true rfl)) rfl ?_
                          exact ih_912 _ (sf_up hN_912 e1023 B931 (by decide) (by decide)) h949 m947 w948 z1022 z1012 z1017 y8_912 (.long z966) (pm_no) T950 F953 W956 (sf_weak B1024 (by decide) (by decide)) By8_912 rfl rfl
                        · have B1025 : sf_B 1 2147483647 z1018 := sf_ltR (Int32.not_le.mp c1020) sf_k0 (sf_any z1018)
                          have k1026 := lf_ge e1019 B1025 (by decide)
                          have k1027 := sf_lneA e1019 B1025 (by decide)
                          refine pm_R_lo pm_M287 (pc' := 132) (pm_q287_1 (Nat.le_of_ble_eq_true rfl)) rfl rfl ?_
                          refine pm_R_br pm_M287 (pc' := 137) (pm_q287_1 (Nat.le_of_ble_eq_true rfl)) rfl ?_
                          refine pm_R_lo pm_M287 (pc' := 139) (ls' := [.ref 41, .int a0, .int a1, .int a2, .long z1012, pm_no, .long z1017, pm_no, .long z966, pm_no, .int x10_912, .long z966, pm_no]) (st' := []) (pm_q287_1 (Nat.le_of_ble_eq_true rfl)) rfl rfl ?_
                          refine sf_R_iinc pm_M287 (pc' := 142) (ls' := fun z => [.ref 41, .int a0, .int a1, .int a2, .long z1012, pm_no, .long z1017, pm_no, .long z966, pm_no, .int z, .long z966, pm_no]) (pm_q287_1 (Nat.le_of_ble_eq_true rfl)) B931 rfl (by decide) (by decide) (by decide) (fun _ => rfl) rfl (fun z1028 e1029 B1030 => ?_)
                          show pm_R _ 287 142 [.ref 41, .int a0, .int a1, .int a2, .long z1012, pm_no, .long z1017, pm_no, .long z966, pm_no, .int z1028, .long z966, pm_no] [] _ _
                          refine pm_R_br pm_M287 (pc' := 53) (pm_q287_1 (Nat.le_of_ble_eq_true rfl)) rfl ?_
                          exact ih_912 _ (sf_up hN_912 e1029 B931 (by decide) (by decide)) h949 m947 w948 z1028 z1012 z1017 z966 (.long z966) (pm_no) T950 F953 W956 (sf_weak B1030 (by decide) (by decide)) B968 rfl rfl
                      · have B1031 : sf_B 0 0 z1013 := sf_eqL (Classical.not_not.mp c1015) sf_k0
                        refine pm_R_op pm_M287 (pc' := 115) (st' := [.long 1, .long y6_912]) (pm_q287_1 (Nat.le_of_ble_eq_true rfl)) rfl rfl ?_
                        refine pm_R_br pm_M287 (pc' := 119) (pm_q287_1 (Nat.le_of_ble_eq_true rfl)) rfl ?_
                        refine sf_R_lany pm_M287 (pc' := 120) (st := []) (pm_q287_1 (Nat.le_of_ble_eq_true rfl)) rfl rfl (fun z1032 => ?_)
                        refine pm_R_lo pm_M287 (pc' := 122) (ls' := [.ref 41, .int a0, .int a1, .int a2, .long z1012, pm_no, .long z1032, pm_no, .long y8_912, pm_no, .int x10_912, .long z966, pm_no]) (st' := []) (pm_q287_1 (Nat.le_of_ble_eq_true rfl)) rfl rfl ?_
                        refine pm_R_lo pm_M287 (pc' := 124) (pm_q287_1 (Nat.le_of_ble_eq_true rfl)) rfl rfl ?_
                        refine pm_R_lo pm_M287 (pc' := 126) (pm_q287_1 (Nat.le_of_ble_eq_true rfl)) rfl rfl ?_
                        refine sf_R_lcmp pm_M287 (pc' := 127) (pm_q287_1 (Nat.le_of_ble_eq_true rfl)) rfl (fun z1033 e1034 => ?_)
                        refine pm_R_ifc pm_M287 (t := 135) (pc' := 130) (pm_q287_1 (Nat.le_of_ble_eq_true rfl)) rfl rfl (fun c1035 => ?_) (fun c1035 => ?_)
                        · have B1036 : sf_B (-2147483648) 0 z1033 := sf_leL c1035 (sf_any z1033) sf_k0
                          refine pm_R_lo pm_M287 (pc' := 137) (pm_q287_1 (Nat.le_of_ble_eq_true rfl)) rfl rfl ?_
                          refine pm_R_lo pm_M287 (pc' := 139) (ls' := [.ref 41, .int a0, .int a1, .int a2, .long z1012, pm_no, .long z1032, pm_no, .long y8_912, pm_no, .int x10_912, .long z966, pm_no]) (st' := []) (pm_q287_1 (Nat.le_of_ble_eq_true rfl)) rfl rfl ?_
                          refine sf_R_iinc pm_M287 (pc' := 142) (ls' := fun z => [.ref 41, .int a0, .int a1, .int a2, .long z1012, pm_no, .long z1032, pm_no, .long y8_912, pm_no, .int z, .long z966, pm_no]) (pm_q287_1 (Nat.le_of_ble_eq_true rfl)) B931 rfl (by decide) (by decide) (by decide) (fun _ => rfl) rfl (fun z1037 e1038 B1039 => ?_)
                          show pm_R _ 287 142 [.ref 41, .int a0, .int a1, .int a2, .long z1012, pm_no, .long z1032, pm_no, .long y8_912, pm_no, .int z1037, .long z966, pm_no] [] _ _
                          refine pm_R_br pm_M287 (pc' := 53) (pm_q287_1 (Nat.le_of_ble_eq_true rfl)) rfl ?_
                          exact ih_912 _ (sf_up hN_912 e1038 B931 (by decide) (by decide)) h949 m947 w948 z1037 z1012 z1032 y8_912 (.long z966) (pm_no) T950 F953 W956 (sf_weak B1039 (by decide) (by decide)) By8_912 rfl rfl
                        · have B1040 : sf_B 1 2147483647 z1033 := sf_ltR (Int32.not_le.mp c1035) sf_k0 (sf_any z1033)
                          have k1041 := lf_ge e1034 B1040 (by decide)
                          have k1042 := sf_lneA e1034 B1040 (by decide)
                          refine pm_R_lo pm_M287 (pc' := 132) (pm_q287_1 (Nat.le_of_ble_eq_true rfl)) rfl rfl ?_
                          refine pm_R_br pm_M287 (pc' := 137) (pm_q287_1 (Nat.le_of_ble_eq_true rfl)) rfl ?_
                          refine pm_R_lo pm_M287 (pc' := 139) (ls' := [.ref 41, .int a0, .int a1, .int a2, .long z1012, pm_no, .long z1032, pm_no, .long z966, pm_no, .int x10_912, .long z966, pm_no]) (st' := []) (pm_q287_1 (Nat.le_of_ble_eq_true rfl)) rfl rfl ?_
                          refine sf_R_iinc pm_M287 (pc' := 142) (ls' := fun z => [.ref 41, .int a0, .int a1, .int a2, .long z1012, pm_no, .long z1032, pm_no, .long z966, pm_no, .int z, .long z966, pm_no]) (pm_q287_1 (Nat.le_of_ble_eq_true rfl)) B931 rfl (by decide) (by decide) (by decide) (fun _ => rfl) rfl (fun z1043 e1044 B1045 => ?_)
                          show pm_R _ 287 142 [.ref 41, .int a0, .int a1, .int a2, .long z1012, pm_no, .long z1032, pm_no, .long z966, pm_no, .int z1043, .long z966, pm_no] [] _ _
                          refine pm_R_br pm_M287 (pc' := 53) (pm_q287_1 (Nat.le_of_ble_eq_true rfl)) rfl ?_
                          exact ih_912 _ (sf_up hN_912 e1044 B931 (by decide) (by decide)) h949 m947 w948 z1043 z1012 z1032 z966 (.long z966) (pm_no) T950 F953 W956 (sf_weak B1045 (by decide) (by decide)) B968 rfl rfl
              exact L_912 _ h37 m40 w 0 0 0 0 (pm_no) (pm_no) T38 F42 (rf_W.refl _ _) (sf_weak sf_k0 (by decide) (by decide)) (lf_weak (⟨by decide, by decide⟩ : lf_B 0 0 0) (by decide) (by decide)) rfl rfl
