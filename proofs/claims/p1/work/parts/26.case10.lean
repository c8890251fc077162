set_option maxRecDepth 100000 in
set_option maxHeartbeats 40000000 in
theorem p1_c32 (xs : Nat → Int32) (f : Nat → pm_E) (hh : ∀ i, i < 72 → f i = pm_fF 7 xs i) (x0 x1 x2 x3 x4 x5 x6 : Int32) (hx0 : xs 0 = x0) (hx1 : xs 1 = x1) (hx2 : xs 2 = x2) (hx3 : xs 3 = x3) (hx4 : xs 4 = x4) (hx5 : xs 5 = x5) (hx6 : xs 6 = x6) : pm_R 100 0 1665 [.ref 0, .ref 16, .ref 41, .int 0] [] (72, 52657, f) p1_Q := by
  refine pm_R_lo pm_M0 (pc' := 1666) (pm_q0_21 (Nat.le_of_ble_eq_true rfl)) rfl rfl ?_
  refine pm_R_lo pm_M0 (pc' := 1667) (pm_q0_21 (Nat.le_of_ble_eq_true rfl)) rfl rfl ?_
  refine pm_R_lo pm_M0 (pc' := 1668) (pm_q0_21 (Nat.le_of_ble_eq_true rfl)) rfl rfl ?_
  refine pm_R_op pm_M0 (pc' := 1669) (st' := [.int 1, .int 0, .ref 0, .ref 16]) (pm_q0_21 (Nat.le_of_ble_eq_true rfl)) rfl rfl ?_
  refine pm_R_op pm_M0 (pc' := 1670) (st' := [.int 1, .ref 0, .ref 16]) (pm_q0_21 (Nat.le_of_ble_eq_true rfl)) rfl rfl ?_
  refine pm_R_iald pm_M0 (pc' := 1671) (v := x1) (pm_q0_21 (Nat.le_of_ble_eq_true rfl)) (hh 0 (Nat.le_of_ble_eq_true rfl)) (Nat.le_of_ble_eq_true rfl) rfl hx1 rfl ?_
  refine pm_R_lo pm_M0 (pc' := 1672) (pm_q0_21 (Nat.le_of_ble_eq_true rfl)) rfl rfl ?_
  refine pm_R_lo pm_M0 (pc' := 1673) (pm_q0_21 (Nat.le_of_ble_eq_true rfl)) rfl rfl ?_
  refine pm_R_op pm_M0 (pc' := 1674) (st' := [.int 2, .int 0, .ref 0, .int x1, .ref 16]) (pm_q0_21 (Nat.le_of_ble_eq_true rfl)) rfl rfl ?_
  refine pm_R_op pm_M0 (pc' := 1675) (st' := [.int 2, .ref 0, .int x1, .ref 16]) (pm_q0_21 (Nat.le_of_ble_eq_true rfl)) rfl rfl ?_
  refine pm_R_iald pm_M0 (pc' := 1676) (v := x2) (pm_q0_21 (Nat.le_of_ble_eq_true rfl)) (hh 0 (Nat.le_of_ble_eq_true rfl)) (Nat.le_of_ble_eq_true rfl) rfl hx2 rfl ?_
  refine pm_R_cv pm_M0 (pc' := 1679) (a := 16) (ra := [.int x2, .int x1]) (rest := []) (ls' := [.ref 16, .int x1, .int x2, pm_no, pm_no, pm_no, pm_no, pm_no, pm_no]) (pm_q0_21 (Nat.le_of_ble_eq_true rfl)) rfl (Or.inl rfl) pm_M168 (hh 16 (Nat.le_of_ble_eq_true rfl)) rfl (Nat.le_of_ble_eq_true rfl) (Nat.le_of_ble_eq_true rfl) rfl rfl (Nat.le_of_ble_eq_true rfl) rfl rfl ?_
  refine pm_R_lo pm_M168 (pc' := 1) rfl rfl rfl ?_
  refine pm_R_lo pm_M168 (pc' := 2) rfl rfl rfl ?_
  refine pm_R_cv pm_M168 (pc' := 5) (a := 16) (ra := [.int x1]) (rest := []) (ls' := [.ref 16, .int x1]) rfl rfl (Or.inl rfl) pm_M163 (hh 16 (Nat.le_of_ble_eq_true rfl)) rfl (Nat.le_of_ble_eq_true rfl) (Nat.le_of_ble_eq_true rfl) rfl rfl (Nat.le_of_ble_eq_true rfl) rfl rfl ?_
  refine pm_R_lo pm_M163 (pc' := 1) rfl rfl rfl ?_
  refine pm_R_ifc pm_M163 (t := 17) (pc' := 4) rfl rfl rfl (fun c_1 => ?_) (fun c_1 => ?_)
  · refine pm_R_op pm_M163 (pc' := 18) (st' := [.null]) rfl rfl rfl ?_
    refine pm_R_br pm_M163 (pc' := 30) rfl rfl ?_
    refine pm_R_ret pm_M163 (r := some (.null)) rfl rfl ?_
    show pm_R _ 168 5 [.ref 16, .int x1, .int x2, pm_no, pm_no, pm_no, pm_no, pm_no, pm_no] [.null] _ _
    refine pm_R_lo pm_M168 (pc' := 6) (ls' := [.ref 16, .int x1, .int x2, .null, pm_no, pm_no, pm_no, pm_no, pm_no]) (st' := []) rfl rfl rfl ?_
    refine pm_R_lo pm_M168 (pc' := 7) rfl rfl rfl ?_
    refine pm_R_lo pm_M168 (pc' := 8) rfl rfl rfl ?_
    refine pm_R_cv pm_M168 (pc' := 11) (a := 16) (ra := [.int x2]) (rest := []) (ls' := [.ref 16, .int x2]) rfl rfl (Or.inl rfl) pm_M139 (hh 16 (Nat.le_of_ble_eq_true rfl)) rfl (Nat.le_of_ble_eq_true rfl) (Nat.le_of_ble_eq_true rfl) rfl rfl (Nat.le_of_ble_eq_true rfl) rfl rfl ?_
    refine pm_R_lo pm_M139 (pc' := 1) rfl rfl rfl ?_
    refine pm_R_ifc pm_M139 (t := 17) (pc' := 4) rfl rfl rfl (fun c_2 => ?_) (fun c_2 => ?_)
    · refine pm_R_op pm_M139 (pc' := 18) (st' := [.null]) rfl rfl rfl ?_
      refine pm_R_br pm_M139 (pc' := 30) rfl rfl ?_
      refine pm_R_ret pm_M139 (r := some (.null)) rfl rfl ?_
      show pm_R _ 168 11 [.ref 16, .int x1, .int x2, .null, pm_no, pm_no, pm_no, pm_no, pm_no] [.null] _ _
      refine pm_R_lo pm_M168 (pc' := 13) (ls' := [.ref 16, .int x1, .int x2, .null, .null, pm_no, pm_no, pm_no, pm_no]) (st' := []) rfl rfl rfl ?_
      refine pm_R_lo pm_M168 (pc' := 14) rfl rfl rfl ?_
      refine pm_R_br pm_M168 (pc' := 22) rfl rfl ?_
      refine pm_R_op pm_M168 (pc' := 23) (st' := [.int (-1)]) rfl rfl rfl ?_
      refine pm_R_ret pm_M168 (r := some (.int (-1))) rfl rfl ?_
      show pm_R _ 0 1679 [.ref 0, .ref 16, .ref 41, .int 0] [.int (-1)] _ _
      refine pm_R_lo pm_M0 (pc' := 1680) (pm_q0_21 (Nat.le_of_ble_eq_true rfl)) rfl rfl ?_
      refine pm_R_lo pm_M0 (pc' := 1681) (pm_q0_21 (Nat.le_of_ble_eq_true rfl)) rfl rfl ?_
      refine pm_R_lo pm_M0 (pc' := 1682) (pm_q0_21 (Nat.le_of_ble_eq_true rfl)) rfl rfl ?_
      refine pm_R_op pm_M0 (pc' := 1683) (st' := [.int 1, .int 0, .ref 0, .ref 41, .int (-1)]) (pm_q0_21 (Nat.le_of_ble_eq_true rfl)) rfl rfl ?_
      refine pm_R_op pm_M0 (pc' := 1684) (st' := [.int 1, .ref 0, .ref 41, .int (-1)]) (pm_q0_21 (Nat.le_of_ble_eq_true rfl)) rfl rfl ?_
      refine pm_R_iald pm_M0 (pc' := 1685) (v := x1) (pm_q0_21 (Nat.le_of_ble_eq_true rfl)) (hh 0 (Nat.le_of_ble_eq_true rfl)) (Nat.le_of_ble_eq_true rfl) rfl hx1 rfl ?_
      refine pm_R_lo pm_M0 (pc' := 1686) (pm_q0_21 (Nat.le_of_ble_eq_true rfl)) rfl rfl ?_
      refine pm_R_lo pm_M0 (pc' := 1687) (pm_q0_21 (Nat.le_of_ble_eq_true rfl)) rfl rfl ?_
      refine pm_R_op pm_M0 (pc' := 1688) (st' := [.int 2, .int 0, .ref 0, .int x1, .ref 41, .int (-1)]) (pm_q0_21 (Nat.le_of_ble_eq_true rfl)) rfl rfl ?_
      refine pm_R_op pm_M0 (pc' := 1689) (st' := [.int 2, .ref 0, .int x1, .ref 41, .int (-1)]) (pm_q0_21 (Nat.le_of_ble_eq_true rfl)) rfl rfl ?_
      refine pm_R_iald pm_M0 (pc' := 1690) (v := x2) (pm_q0_21 (Nat.le_of_ble_eq_true rfl)) (hh 0 (Nat.le_of_ble_eq_true rfl)) (Nat.le_of_ble_eq_true rfl) rfl hx2 rfl ?_
      refine pm_R_cv pm_M0 (pc' := 1693) (a := 41) (ra := [.int x2, .int x1]) (rest := [.int (-1)]) (ls' := [.ref 41, .int x1, .int x2, pm_no, pm_no, pm_no, pm_no]) (pm_q0_21 (Nat.le_of_ble_eq_true rfl)) rfl (Or.inl rfl) pm_M282 (hh 41 (Nat.le_of_ble_eq_true rfl)) rfl (Nat.le_of_ble_eq_true rfl) (Nat.le_of_ble_eq_true rfl) rfl rfl (Nat.le_of_ble_eq_true rfl) rfl rfl ?_
      refine pm_R_lo pm_M282 (pc' := 1) rfl rfl rfl ?_
      refine pm_R_op pm_M282 (pc' := 2) (st' := [.int 0, .ref 41]) rfl rfl rfl ?_
      refine pm_R_put pm_M282 (pc' := 5) (fs' := [.int 0, .ref 42, .ref 43, .ref 44, .ref 45, .ref 46, .ref 47, .ref 48, .ref 49, .ref 50, .int 0, .int 0, .int 0, .int 0, .int 0, .long 0, .int 0, .int 0, .int 0, .ref 51, .ref 52, .int 0, .int 0, .int 0, .int 0, .ref 53, .int 0, .int 0, .ref 54, .ref 55, .ref 56, .int 0, .ref 57, .ref 58, .ref 59, .ref 60, .ref 61, .ref 62, .ref 63, .ref 64, .ref 65, .ref 66, .int 0, .int 0, .int 0, .ref 67, .ref 68, .int 0, .ref 69, .int 0, .int 0, .ref 70, .ref 71]) rfl rfl rfl (hh 41 (Nat.le_of_ble_eq_true rfl)) (Nat.le_of_ble_eq_true rfl) (Nat.le_of_ble_eq_true rfl) (Nat.le_of_ble_eq_true rfl) rfl (Or.inl rfl) rfl rfl ?_
      refine pm_R_lo pm_M282 (pc' := 6) rfl rfl rfl ?_
      refine pm_R_lo pm_M282 (pc' := 7) rfl rfl rfl ?_
      refine pm_R_lo pm_M282 (pc' := 8) rfl rfl rfl ?_
      refine pm_R_cv pm_M282 (pc' := 11) (a := 41) (ra := [.int x2, .int x1]) (rest := []) (ls' := [.ref 41, .int x1, .int x2]) rfl rfl (Or.inl rfl) pm_M275 rfl rfl (Nat.le_of_ble_eq_true rfl) (Nat.le_of_ble_eq_true rfl) rfl rfl (Nat.le_of_ble_eq_true rfl) rfl rfl ?_
      refine pm_R_lo pm_M275 (pc' := 1) rfl rfl rfl ?_
      refine pm_R_op pm_M275 (pc' := 2) (st' := [.int 3, .ref 41]) rfl rfl rfl ?_
      refine pm_R_lo pm_M275 (pc' := 3) rfl rfl rfl ?_
      refine pm_R_cv pm_M275 (pc' := 6) (a := 41) (ra := [.int x1, .int 3]) (rest := []) (ls' := [.ref 41, .int 3, .int x1]) rfl rfl (Or.inl rfl) pm_M177 rfl rfl (Nat.le_of_ble_eq_true rfl) (Nat.le_of_ble_eq_true rfl) rfl rfl (Nat.le_of_ble_eq_true rfl) rfl rfl ?_
      refine pm_R_lo pm_M177 (pc' := 1) rfl rfl rfl ?_
      refine pm_R_op pm_M177 (pc' := 2) (st' := [.int 0, .int x1]) rfl rfl rfl ?_
      refine pm_R_lo pm_M177 (pc' := 3) rfl rfl rfl ?_
      refine pm_R_get pm_M177 (pc' := 6) (v := .ref 46) rfl rfl rfl (Nat.le_of_ble_eq_true rfl) (Nat.le_of_ble_eq_true rfl) rfl rfl ?_
      refine pm_R_lo pm_M177 (pc' := 7) rfl rfl rfl ?_
      refine pm_R_iald pm_M177 (pc' := 8) (v := 0) rfl (hh 46 (Nat.le_of_ble_eq_true rfl)) (Nat.le_of_ble_eq_true rfl) rfl rfl rfl ?_
      refine pm_R_op pm_M177 (pc' := 9) (st' := [.int 1, .int 0, .int 0, .int x1]) rfl rfl rfl ?_
      refine pm_R_op pm_M177 (pc' := 10) (st' := [.int (-1), .int 0, .int x1]) rfl rfl rfl ?_
      refine pm_R_cs pm_M177 (pc' := 13) (ra := [.int (-1), .int 0, .int x1]) (rest := []) (ls' := [.int x1, .int 0, .int (-1)]) rfl rfl (Or.inl rfl) pm_M174 rfl rfl (Nat.le_of_ble_eq_true rfl) rfl rfl ?_
      refine pm_R_lo pm_M174 (pc' := 1) rfl rfl rfl ?_
      refine pm_R_lo pm_M174 (pc' := 2) rfl rfl rfl ?_
      refine pm_R_icmp pm_M174 (t := 14) (pc' := 5) rfl rfl rfl (fun c_3 => ?_) (fun c_3 => by exact absurd c_1 c_3)
      refine pm_R_op pm_M174 (pc' := 15) (st' := [.int 0]) rfl rfl rfl ?_
      refine pm_R_ret pm_M174 (r := some (.int 0)) rfl rfl ?_
      show pm_R _ 177 13 [.ref 41, .int 3, .int x1] [.int 0] _ _
      refine pm_R_ret pm_M177 (r := some (.int 0)) rfl rfl ?_
      show pm_R _ 275 6 [.ref 41, .int x1, .int x2] [.int 0] _ _
      refine pm_R_br pm_M275 (pc' := 17) (st' := []) rfl rfl ?_
      refine pm_R_op pm_M275 (pc' := 18) (st' := [.int 0]) rfl rfl rfl ?_
      refine pm_R_ret pm_M275 (r := some (.int 0)) rfl rfl ?_
      show pm_R _ 282 11 [.ref 41, .int x1, .int x2, pm_no, pm_no, pm_no, pm_no] [.int 0] _ _
      refine pm_R_br pm_M282 (pc' := 14) (st' := []) rfl rfl ?_
      refine pm_R_op pm_M282 (pc' := 15) (st' := [.int (-1)]) rfl rfl rfl ?_
      refine pm_R_ret pm_M282 (r := some (.int (-1))) rfl rfl ?_
      show pm_R _ 0 1693 [.ref 0, .ref 16, .ref 41, .int 0] [.int (-1), .int (-1)] _ _
      refine pm_R_br pm_M0 (pc' := 2121) (st' := []) (pm_q0_21 (Nat.le_of_ble_eq_true rfl)) rfl ?_
      exact p1_tail (hh 0 (Nat.le_of_ble_eq_true rfl)) (Nat.le_of_ble_eq_true rfl) (Nat.le_of_ble_eq_true rfl) (Nat.le_of_ble_eq_true rfl)
    · refine pm_R_lo pm_M139 (pc' := 5) rfl rfl rfl ?_
      refine pm_R_lo pm_M139 (pc' := 6) rfl rfl rfl ?_
      refine pm_R_get pm_M139 (pc' := 9) (v := .ref 17) rfl rfl (hh 16 (Nat.le_of_ble_eq_true rfl)) (Nat.le_of_ble_eq_true rfl) (Nat.le_of_ble_eq_true rfl) rfl rfl ?_
      refine pm_R_get pm_M139 (pc' := 12) (v := .ref 23) rfl rfl (hh 17 (Nat.le_of_ble_eq_true rfl)) (Nat.le_of_ble_eq_true rfl) (Nat.le_of_ble_eq_true rfl) rfl rfl ?_
      refine pm_R_op pm_M139 (pc' := 13) (st' := [.int 2, .ref 23, .int x2]) rfl rfl rfl ?_
      refine pm_R_iald pm_M139 (pc' := 14) (v := 0) rfl (hh 23 (Nat.le_of_ble_eq_true rfl)) (Nat.le_of_ble_eq_true rfl) rfl rfl rfl ?_
      refine pm_R_icmp pm_M139 (t := 21) (pc' := 17) rfl rfl rfl (fun c_4 => by exact absurd c_4 c_2) (fun c_4 => ?_)
      refine pm_R_op pm_M139 (pc' := 18) (st' := [.null]) rfl rfl rfl ?_
      refine pm_R_br pm_M139 (pc' := 30) rfl rfl ?_
      refine pm_R_ret pm_M139 (r := some (.null)) rfl rfl ?_
      show pm_R _ 168 11 [.ref 16, .int x1, .int x2, .null, pm_no, pm_no, pm_no, pm_no, pm_no] [.null] _ _
      refine pm_R_lo pm_M168 (pc' := 13) (ls' := [.ref 16, .int x1, .int x2, .null, .null, pm_no, pm_no, pm_no, pm_no]) (st' := []) rfl rfl rfl ?_
      refine pm_R_lo pm_M168 (pc' := 14) rfl rfl rfl ?_
      refine pm_R_br pm_M168 (pc' := 22) rfl rfl ?_
      refine pm_R_op pm_M168 (pc' := 23) (st' := [.int (-1)]) rfl rfl rfl ?_
      refine pm_R_ret pm_M168 (r := some (.int (-1))) rfl rfl ?_
      show pm_R _ 0 1679 [.ref 0, .ref 16, .ref 41, .int 0] [.int (-1)] _ _
      refine pm_R_lo pm_M0 (pc' := 1680) (pm_q0_21 (Nat.le_of_ble_eq_true rfl)) rfl rfl ?_
      refine pm_R_lo pm_M0 (pc' := 1681) (pm_q0_21 (Nat.le_of_ble_eq_true rfl)) rfl rfl ?_
      refine pm_R_lo pm_M0 (pc' := 1682) (pm_q0_21 (Nat.le_of_ble_eq_true rfl)) rfl rfl ?_
      refine pm_R_op pm_M0 (pc' := 1683) (st' := [.int 1, .int 0, .ref 0, .ref 41, .int (-1)]) (pm_q0_21 (Nat.le_of_ble_eq_true rfl)) rfl rfl ?_
      refine pm_R_op pm_M0 (pc' := 1684) (st' := [.int 1, .ref 0, .ref 41, .int (-1)]) (pm_q0_21 (Nat.le_of_ble_eq_true rfl)) rfl rfl ?_
      refine pm_R_iald pm_M0 (pc' := 1685) (v := x1) (pm_q0_21 (Nat.le_of_ble_eq_true rfl)) (hh 0 (Nat.le_of_ble_eq_true rfl)) (Nat.le_of_ble_eq_true rfl) rfl hx1 rfl ?_
      refine pm_R_lo pm_M0 (pc' := 1686) (pm_q0_21 (Nat.le_of_ble_eq_true rfl)) rfl rfl ?_
      refine pm_R_lo pm_M0 (pc' := 1687) (pm_q0_21 (Nat.le_of_ble_eq_true rfl)) rfl rfl ?_
      refine pm_R_op pm_M0 (pc' := 1688) (st' := [.int 2, .int 0, .ref 0, .int x1, .ref 41, .int (-1)]) (pm_q0_21 (Nat.le_of_ble_eq_true rfl)) rfl rfl ?_
      refine pm_R_op pm_M0 (pc' := 1689) (st' := [.int 2, .ref 0, .int x1, .ref 41, .int (-1)]) (pm_q0_21 (Nat.le_of_ble_eq_true rfl)) rfl rfl ?_
      refine pm_R_iald pm_M0 (pc' := 1690) (v := x2) (pm_q0_21 (Nat.le_of_ble_eq_true rfl)) (hh 0 (Nat.le_of_ble_eq_true rfl)) (Nat.le_of_ble_eq_true rfl) rfl hx2 rfl ?_
      refine pm_R_cv pm_M0 (pc' := 1693) (a := 41) (ra := [.int x2, .int x1]) (rest := [.int (-1)]) (ls' := [.ref 41, .int x1, .int x2, pm_no, pm_no, pm_no, pm_no]) (pm_q0_21 (Nat.le_of_ble_eq_true rfl)) rfl (Or.inl rfl) pm_M282 (hh 41 (Nat.le_of_ble_eq_true rfl)) rfl (Nat.le_of_ble_eq_true rfl) (Nat.le_of_ble_eq_true rfl) rfl rfl (Nat.le_of_ble_eq_true rfl) rfl rfl ?_
      refine pm_R_lo pm_M282 (pc' := 1) rfl rfl rfl ?_
      refine pm_R_op pm_M282 (pc' := 2) (st' := [.int 0, .ref 41]) rfl rfl rfl ?_
      refine pm_R_put pm_M282 (pc' := 5) (fs' := [.int 0, .ref 42, .ref 43, .ref 44, .ref 45, .ref 46, .ref 47, .ref 48, .ref 49, .ref 50, .int 0, .int 0, .int 0, .int 0, .int 0, .long 0, .int 0, .int 0, .int 0, .ref 51, .ref 52, .int 0, .int 0, .int 0, .int 0, .ref 53, .int 0, .int 0, .ref 54, .ref 55, .ref 56, .int 0, .ref 57, .ref 58, .ref 59, .ref 60, .ref 61, .ref 62, .ref 63, .ref 64, .ref 65, .ref 66, .int 0, .int 0, .int 0, .ref 67, .ref 68, .int 0, .ref 69, .int 0, .int 0, .ref 70, .ref 71]) rfl rfl rfl (hh 41 (Nat.le_of_ble_eq_true rfl)) (Nat.le_of_ble_eq_true rfl) (Nat.le_of_ble_eq_true rfl) (Nat.le_of_ble_eq_true rfl) rfl (Or.inl rfl) rfl rfl ?_
      refine pm_R_lo pm_M282 (pc' := 6) rfl rfl rfl ?_
      refine pm_R_lo pm_M282 (pc' := 7) rfl rfl rfl ?_
      refine pm_R_lo pm_M282 (pc' := 8) rfl rfl rfl ?_
      refine pm_R_cv pm_M282 (pc' := 11) (a := 41) (ra := [.int x2, .int x1]) (rest := []) (ls' := [.ref 41, .int x1, .int x2]) rfl rfl (Or.inl rfl) pm_M275 rfl rfl (Nat.le_of_ble_eq_true rfl) (Nat.le_of_ble_eq_true rfl) rfl rfl (Nat.le_of_ble_eq_true rfl) rfl rfl ?_
      refine pm_R_lo pm_M275 (pc' := 1) rfl rfl rfl ?_
      refine pm_R_op pm_M275 (pc' := 2) (st' := [.int 3, .ref 41]) rfl rfl rfl ?_
      refine pm_R_lo pm_M275 (pc' := 3) rfl rfl rfl ?_
      refine pm_R_cv pm_M275 (pc' := 6) (a := 41) (ra := [.int x1, .int 3]) (rest := []) (ls' := [.ref 41, .int 3, .int x1]) rfl rfl (Or.inl rfl) pm_M177 rfl rfl (Nat.le_of_ble_eq_true rfl) (Nat.le_of_ble_eq_true rfl) rfl rfl (Nat.le_of_ble_eq_true rfl) rfl rfl ?_
      refine pm_R_lo pm_M177 (pc' := 1) rfl rfl rfl ?_
      refine pm_R_op pm_M177 (pc' := 2) (st' := [.int 0, .int x1]) rfl rfl rfl ?_
      refine pm_R_lo pm_M177 (pc' := 3) rfl rfl rfl ?_
      refine pm_R_get pm_M177 (pc' := 6) (v := .ref 46) rfl rfl rfl (Nat.le_of_ble_eq_true rfl) (Nat.le_of_ble_eq_true rfl) rfl rfl ?_
      refine pm_R_lo pm_M177 (pc' := 7) rfl rfl rfl ?_
      refine pm_R_iald pm_M177 (pc' := 8) (v := 0) rfl (hh 46 (Nat.le_of_ble_eq_true rfl)) (Nat.le_of_ble_eq_true rfl) rfl rfl rfl ?_
      refine pm_R_op pm_M177 (pc' := 9) (st' := [.int 1, .int 0, .int 0, .int x1]) rfl rfl rfl ?_
      refine pm_R_op pm_M177 (pc' := 10) (st' := [.int (-1), .int 0, .int x1]) rfl rfl rfl ?_
      refine pm_R_cs pm_M177 (pc' := 13) (ra := [.int (-1), .int 0, .int x1]) (rest := []) (ls' := [.int x1, .int 0, .int (-1)]) rfl rfl (Or.inl rfl) pm_M174 rfl rfl (Nat.le_of_ble_eq_true rfl) rfl rfl ?_
      refine pm_R_lo pm_M174 (pc' := 1) rfl rfl rfl ?_
      refine pm_R_lo pm_M174 (pc' := 2) rfl rfl rfl ?_
      refine pm_R_icmp pm_M174 (t := 14) (pc' := 5) rfl rfl rfl (fun c_5 => ?_) (fun c_5 => by exact absurd c_1 c_5)
      refine pm_R_op pm_M174 (pc' := 15) (st' := [.int 0]) rfl rfl rfl ?_
      refine pm_R_ret pm_M174 (r := some (.int 0)) rfl rfl ?_
      show pm_R _ 177 13 [.ref 41, .int 3, .int x1] [.int 0] _ _
      refine pm_R_ret pm_M177 (r := some (.int 0)) rfl rfl ?_
      show pm_R _ 275 6 [.ref 41, .int x1, .int x2] [.int 0] _ _
      refine pm_R_br pm_M275 (pc' := 17) (st' := []) rfl rfl ?_
      refine pm_R_op pm_M275 (pc' := 18) (st' := [.int 0]) rfl rfl rfl ?_
      refine pm_R_ret pm_M275 (r := some (.int 0)) rfl rfl ?_
      show pm_R _ 282 11 [.ref 41, .int x1, .int x2, pm_no, pm_no, pm_no, pm_no] [.int 0] _ _
      refine pm_R_br pm_M282 (pc' := 14) (st' := []) rfl rfl ?_
      refine pm_R_op pm_M282 (pc' := 15) (st' := [.int (-1)]) rfl rfl rfl ?_
      refine pm_R_ret pm_M282 (r := some (.int (-1))) rfl rfl ?_
      show pm_R _ 0 1693 [.ref 0, .ref 16, .ref 41, .int 0] [.int (-1), .int (-1)] _ _
      refine pm_R_br pm_M0 (pc' := 2121) (st' := []) (pm_q0_21 (Nat.le_of_ble_eq_true rfl)) rfl ?_
      exact p1_tail (hh 0 (Nat.le_of_ble_eq_true rfl)) (Nat.le_of_ble_eq_true rfl) (Nat.le_of_ble_eq_true rfl) (Nat.le_of_ble_eq_true rfl)
  · refine pm_R_lo pm_M163 (pc' := 5) rfl rfl rfl ?_
    refine pm_R_lo pm_M163 (pc' := 6) rfl rfl rfl ?_
    refine pm_R_get pm_M163 (pc' := 9) (v := .ref 17) rfl rfl (hh 16 (Nat.le_of_ble_eq_true rfl)) (Nat.le_of_ble_eq_true rfl) (Nat.le_of_ble_eq_true rfl) rfl rfl ?_
    refine pm_R_get pm_M163 (pc' := 12) (v := .ref 23) rfl rfl (hh 17 (Nat.le_of_ble_eq_true rfl)) (Nat.le_of_ble_eq_true rfl) (Nat.le_of_ble_eq_true rfl) rfl rfl ?_
    refine pm_R_op pm_M163 (pc' := 13) (st' := [.int 3, .ref 23, .int x1]) rfl rfl rfl ?_
    refine pm_R_iald pm_M163 (pc' := 14) (v := 0) rfl (hh 23 (Nat.le_of_ble_eq_true rfl)) (Nat.le_of_ble_eq_true rfl) rfl rfl rfl ?_
    refine pm_R_icmp pm_M163 (t := 21) (pc' := 17) rfl rfl rfl (fun c_6 => by exact absurd c_6 c_1) (fun c_6 => ?_)
    refine pm_R_op pm_M163 (pc' := 18) (st' := [.null]) rfl rfl rfl ?_
    refine pm_R_br pm_M163 (pc' := 30) rfl rfl ?_
    refine pm_R_ret pm_M163 (r := some (.null)) rfl rfl ?_
    show pm_R _ 168 5 [.ref 16, .int x1, .int x2, pm_no, pm_no, pm_no, pm_no, pm_no, pm_no] [.null] _ _
    refine pm_R_lo pm_M168 (pc' := 6) (ls' := [.ref 16, .int x1, .int x2, .null, pm_no, pm_no, pm_no, pm_no, pm_no]) (st' := []) rfl rfl rfl ?_
    refine pm_R_lo pm_M168 (pc' := 7) rfl rfl rfl ?_
    refine pm_R_lo pm_M168 (pc' := 8) rfl rfl rfl ?_
    refine pm_R_cv pm_M168 (pc' := 11) (a := 16) (ra := [.int x2]) (rest := []) (ls' := [.ref 16, .int x2]) rfl rfl (Or.inl rfl) pm_M139 (hh 16 (Nat.le_of_ble_eq_true rfl)) rfl (Nat.le_of_ble_eq_true rfl) (Nat.le_of_ble_eq_true rfl) rfl rfl (Nat.le_of_ble_eq_true rfl) rfl rfl ?_
    refine pm_R_lo pm_M139 (pc' := 1) rfl rfl rfl ?_
    refine pm_R_ifc pm_M139 (t := 17) (pc' := 4) rfl rfl rfl (fun c_7 => ?_) (fun c_7 => ?_)
    · refine pm_R_op pm_M139 (pc' := 18) (st' := [.null]) rfl rfl rfl ?_
      refine pm_R_br pm_M139 (pc' := 30) rfl rfl ?_
      refine pm_R_ret pm_M139 (r := some (.null)) rfl rfl ?_
      show pm_R _ 168 11 [.ref 16, .int x1, .int x2, .null, pm_no, pm_no, pm_no, pm_no, pm_no] [.null] _ _
      refine pm_R_lo pm_M168 (pc' := 13) (ls' := [.ref 16, .int x1, .int x2, .null, .null, pm_no, pm_no, pm_no, pm_no]) (st' := []) rfl rfl rfl ?_
      refine pm_R_lo pm_M168 (pc' := 14) rfl rfl rfl ?_
      refine pm_R_br pm_M168 (pc' := 22) rfl rfl ?_
      refine pm_R_op pm_M168 (pc' := 23) (st' := [.int (-1)]) rfl rfl rfl ?_
      refine pm_R_ret pm_M168 (r := some (.int (-1))) rfl rfl ?_
      show pm_R _ 0 1679 [.ref 0, .ref 16, .ref 41, .int 0] [.int (-1)] _ _
      refine pm_R_lo pm_M0 (pc' := 1680) (pm_q0_21 (Nat.le_of_ble_eq_true rfl)) rfl rfl ?_
      refine pm_R_lo pm_M0 (pc' := 1681) (pm_q0_21 (Nat.le_of_ble_eq_true rfl)) rfl rfl ?_
      refine pm_R_lo pm_M0 (pc' := 1682) (pm_q0_21 (Nat.le_of_ble_eq_true rfl)) rfl rfl ?_
      refine pm_R_op pm_M0 (pc' := 1683) (st' := [.int 1, .int 0, .ref 0, .ref 41, .int (-1)]) (pm_q0_21 (Nat.le_of_ble_eq_true rfl)) rfl rfl ?_
      refine pm_R_op pm_M0 (pc' := 1684) (st' := [.int 1, .ref 0, .ref 41, .int (-1)]) (pm_q0_21 (Nat.le_of_ble_eq_true rfl)) rfl rfl ?_
      refine pm_R_iald pm_M0 (pc' := 1685) (v := x1) (pm_q0_21 (Nat.le_of_ble_eq_true rfl)) (hh 0 (Nat.le_of_ble_eq_true rfl)) (Nat.le_of_ble_eq_true rfl) rfl hx1 rfl ?_
      refine pm_R_lo pm_M0 (pc' := 1686) (pm_q0_21 (Nat.le_of_ble_eq_true rfl)) rfl rfl ?_
      refine pm_R_lo pm_M0 (pc' := 1687) (pm_q0_21 (Nat.le_of_ble_eq_true rfl)) rfl rfl ?_
      refine pm_R_op pm_M0 (pc' := 1688) (st' := [.int 2, .int 0, .ref 0, .int x1, .ref 41, .int (-1)]) (pm_q0_21 (Nat.le_of_ble_eq_true rfl)) rfl rfl ?_
      refine pm_R_op pm_M0 (pc' := 1689) (st' := [.int 2, .ref 0, .int x1, .ref 41, .int (-1)]) (pm_q0_21 (Nat.le_of_ble_eq_true rfl)) rfl rfl ?_
      refine pm_R_iald pm_M0 (pc' := 1690) (v := x2) (pm_q0_21 (Nat.le_of_ble_eq_true rfl)) (hh 0 (Nat.le_of_ble_eq_true rfl)) (Nat.le_of_ble_eq_true rfl) rfl hx2 rfl ?_
      refine pm_R_cv pm_M0 (pc' := 1693) (a := 41) (ra := [.int x2, .int x1]) (rest := [.int (-1)]) (ls' := [.ref 41, .int x1, .int x2, pm_no, pm_no, pm_no, pm_no]) (pm_q0_21 (Nat.le_of_ble_eq_true rfl)) rfl (Or.inl rfl) pm_M282 (hh 41 (Nat.le_of_ble_eq_true rfl)) rfl (Nat.le_of_ble_eq_true rfl) (Nat.le_of_ble_eq_true rfl) rfl rfl (Nat.le_of_ble_eq_true rfl) rfl rfl ?_
      refine pm_R_lo pm_M282 (pc' := 1) rfl rfl rfl ?_
      refine pm_R_op pm_M282 (pc' := 2) (st' := [.int 0, .ref 41]) rfl rfl rfl ?_
      refine pm_R_put pm_M282 (pc' := 5) (fs' := [.int 0, .ref 42, .ref 43, .ref 44, .ref 45, .ref 46, .ref 47, .ref 48, .ref 49, .ref 50, .int 0, .int 0, .int 0, .int 0, .int 0, .long 0, .int 0, .int 0, .int 0, .ref 51, .ref 52, .int 0, .int 0, .int 0, .int 0, .ref 53, .int 0, .int 0, .ref 54, .ref 55, .ref 56, .int 0, .ref 57, .ref 58, .ref 59, .ref 60, .ref 61, .ref 62, .ref 63, .ref 64, .ref 65, .ref 66, .int 0, .int 0, .int 0, .ref 67, .ref 68, .int 0, .ref 69, .int 0, .int 0, .ref 70, .ref 71]) rfl rfl rfl (hh 41 (Nat.le_of_ble_eq_true rfl)) (Nat.le_of_ble_eq_true rfl) (Nat.le_of_ble_eq_true rfl) (Nat.le_of_ble_eq_true rfl) rfl (Or.inl rfl) rfl rfl ?_
      refine pm_R_lo pm_M282 (pc' := 6) rfl rfl rfl ?_
      refine pm_R_lo pm_M282 (pc' := 7) rfl rfl rfl ?_
      refine pm_R_lo pm_M282 (pc' := 8) rfl rfl rfl ?_
      refine pm_R_cv pm_M282 (pc' := 11) (a := 41) (ra := [.int x2, .int x1]) (rest := []) (ls' := [.ref 41, .int x1, .int x2]) rfl rfl (Or.inl rfl) pm_M275 rfl rfl (Nat.le_of_ble_eq_true rfl) (Nat.le_of_ble_eq_true rfl) rfl rfl (Nat.le_of_ble_eq_true rfl) rfl rfl ?_
      refine pm_R_lo pm_M275 (pc' := 1) rfl rfl rfl ?_
      refine pm_R_op pm_M275 (pc' := 2) (st' := [.int 3, .ref 41]) rfl rfl rfl ?_
      refine pm_R_lo pm_M275 (pc' := 3) rfl rfl rfl ?_
      refine pm_R_cv pm_M275 (pc' := 6) (a := 41) (ra := [.int x1, .int 3]) (rest := []) (ls' := [.ref 41, .int 3, .int x1]) rfl rfl (Or.inl rfl) pm_M177 rfl rfl (Nat.le_of_ble_eq_true rfl) (Nat.le_of_ble_eq_true rfl) rfl rfl (Nat.le_of_ble_eq_true rfl) rfl rfl ?_
      refine pm_R_lo pm_M177 (pc' := 1) rfl rfl rfl ?_
      refine pm_R_op pm_M177 (pc' := 2) (st' := [.int 0, .int x1]) rfl rfl rfl ?_
      refine pm_R_lo pm_M177 (pc' := 3) rfl rfl rfl ?_
      refine pm_R_get pm_M177 (pc' := 6) (v := .ref 46) rfl rfl rfl (Nat.le_of_ble_eq_true rfl) (Nat.le_of_ble_eq_true rfl) rfl rfl ?_
      refine pm_R_lo pm_M177 (pc' := 7) rfl rfl rfl ?_
      refine pm_R_iald pm_M177 (pc' := 8) (v := 0) rfl (hh 46 (Nat.le_of_ble_eq_true rfl)) (Nat.le_of_ble_eq_true rfl) rfl rfl rfl ?_
      refine pm_R_op pm_M177 (pc' := 9) (st' := [.int 1, .int 0, .int 0, .int x1]) rfl rfl rfl ?_
      refine pm_R_op pm_M177 (pc' := 10) (st' := [.int (-1), .int 0, .int x1]) rfl rfl rfl ?_
      refine pm_R_cs pm_M177 (pc' := 13) (ra := [.int (-1), .int 0, .int x1]) (rest := []) (ls' := [.int x1, .int 0, .int (-1)]) rfl rfl (Or.inl rfl) pm_M174 rfl rfl (Nat.le_of_ble_eq_true rfl) rfl rfl ?_
      refine pm_R_lo pm_M174 (pc' := 1) rfl rfl rfl ?_
      refine pm_R_lo pm_M174 (pc' := 2) rfl rfl rfl ?_
      refine pm_R_icmp pm_M174 (t := 14) (pc' := 5) rfl rfl rfl (fun c_8 => by exact absurd c_8 c_1) (fun c_8 => ?_)
      refine pm_R_lo pm_M174 (pc' := 6) rfl rfl rfl ?_
      refine pm_R_lo pm_M174 (pc' := 7) rfl rfl rfl ?_
      refine pm_R_icmp pm_M174 (t := 14) (pc' := 10) rfl rfl rfl (fun c_9 => ?_) (fun c_9 => by have z0 : ((-1) : Int32).toInt = -1 := (by decide); have z1 : ((0) : Int32).toInt = 0 := (by decide); have q0 := (Int32.le_iff_toInt_le.mp (Int32.not_lt.mp c_1)); have q1 := (Int32.le_iff_toInt_le.mp (Int32.not_lt.mp c_9)); exfalso; omega)
      refine pm_R_op pm_M174 (pc' := 15) (st' := [.int 0]) rfl rfl rfl ?_
      refine pm_R_ret pm_M174 (r := some (.int 0)) rfl rfl ?_
      show pm_R _ 177 13 [.ref 41, .int 3, .int x1] [.int 0] _ _
      refine pm_R_ret pm_M177 (r := some (.int 0)) rfl rfl ?_
      show pm_R _ 275 6 [.ref 41, .int x1, .int x2] [.int 0] _ _
      refine pm_R_br pm_M275 (pc' := 17) (st' := []) rfl rfl ?_
      refine pm_R_op pm_M275 (pc' := 18) (st' := [.int 0]) rfl rfl rfl ?_
      refine pm_R_ret pm_M275 (r := some (.int 0)) rfl rfl ?_
      show pm_R _ 282 11 [.ref 41, .int x1, .int x2, pm_no, pm_no, pm_no, pm_no] [.int 0] _ _
      refine pm_R_br pm_M282 (pc' := 14) (st' := []) rfl rfl ?_
      refine pm_R_op pm_M282 (pc' := 15) (st' := [.int (-1)]) rfl rfl rfl ?_
      refine pm_R_ret pm_M282 (r := some (.int (-1))) rfl rfl ?_
      show pm_R _ 0 1693 [.ref 0, .ref 16, .ref 41, .int 0] [.int (-1), .int (-1)] _ _
      refine pm_R_br pm_M0 (pc' := 2121) (st' := []) (pm_q0_21 (Nat.le_of_ble_eq_true rfl)) rfl ?_
      exact p1_tail (hh 0 (Nat.le_of_ble_eq_true rfl)) (Nat.le_of_ble_eq_true rfl) (Nat.le_of_ble_eq_true rfl) (Nat.le_of_ble_eq_true rfl)
    · refine pm_R_lo pm_M139 (pc' := 5) rfl rfl rfl ?_
      refine pm_R_lo pm_M139 (pc' := 6) rfl rfl rfl ?_
      refine pm_R_get pm_M139 (pc' := 9) (v := .ref 17) rfl rfl (hh 16 (Nat.le_of_ble_eq_true rfl)) (Nat.le_of_ble_eq_true rfl) (Nat.le_of_ble_eq_true rfl) rfl rfl ?_
      refine pm_R_get pm_M139 (pc' := 12) (v := .ref 23) rfl rfl (hh 17 (Nat.le_of_ble_eq_true rfl)) (Nat.le_of_ble_eq_true rfl) (Nat.le_of_ble_eq_true rfl) rfl rfl ?_
      refine pm_R_op pm_M139 (pc' := 13) (st' := [.int 2, .ref 23, .int x2]) rfl rfl rfl ?_
      refine pm_R_iald pm_M139 (pc' := 14) (v := 0) rfl (hh 23 (Nat.le_of_ble_eq_true rfl)) (Nat.le_of_ble_eq_true rfl) rfl rfl rfl ?_
      refine pm_R_icmp pm_M139 (t := 21) (pc' := 17) rfl rfl rfl (fun c_10 => by exact absurd c_10 c_7) (fun c_10 => ?_)
      refine pm_R_op pm_M139 (pc' := 18) (st' := [.null]) rfl rfl rfl ?_
      refine pm_R_br pm_M139 (pc' := 30) rfl rfl ?_
      refine pm_R_ret pm_M139 (r := some (.null)) rfl rfl ?_
      show pm_R _ 168 11 [.ref 16, .int x1, .int x2, .null, pm_no, pm_no, pm_no, pm_no, pm_no] [.null] _ _
      refine pm_R_lo pm_M168 (pc' := 13) (ls' := [.ref 16, .int x1, .int x2, .null, .null, pm_no, pm_no, pm_no, pm_no]) (st' := []) rfl rfl rfl ?_
      refine pm_R_lo pm_M168 (pc' := 14) rfl rfl rfl ?_
      refine pm_R_br pm_M168 (pc' := 22) rfl rfl ?_
      refine pm_R_op pm_M168 (pc' := 23) (st' := [.int (-1)]) rfl rfl rfl ?_
      refine pm_R_ret pm_M168 (r := some (.int (-1))) rfl rfl ?_
      show pm_R _ 0 1679 [.ref 0, .ref 16, .ref 41, .int 0] [.int (-1)] _ _
      refine pm_R_lo pm_M0 (pc' := 1680) (pm_q0_21 (Nat.le_of_ble_eq_true rfl)) rfl rfl ?_
      refine pm_R_lo pm_M0 (pc' := 1681) (pm_q0_21 (Nat.le_of_ble_eq_true rfl)) rfl rfl ?_
      refine pm_R_lo pm_M0 (pc' := 1682) (pm_q0_21 (Nat.le_of_ble_eq_true rfl)) rfl rfl ?_
      refine pm_R_op pm_M0 (pc' := 1683) (st' := [.int 1, .int 0, .ref 0, .ref 41, .int (-1)]) (pm_q0_21 (Nat.le_of_ble_eq_true rfl)) rfl rfl ?_
      refine pm_R_op pm_M0 (pc' := 1684) (st' := [.int 1, .ref 0, .ref 41, .int (-1)]) (pm_q0_21 (Nat.le_of_ble_eq_true rfl)) rfl rfl ?_
      refine pm_R_iald pm_M0 (pc' := 1685) (v := x1) (pm_q0_21 (Nat.le_of_ble_eq_true rfl)) (hh 0 (Nat.le_of_ble_eq_true rfl)) (Nat.le_of_ble_eq_true rfl) rfl hx1 rfl ?_
      refine pm_R_lo pm_M0 (pc' := 1686) (pm_q0_21 (Nat.le_of_ble_eq_true rfl)) rfl rfl ?_
      refine pm_R_lo pm_M0 (pc' := 1687) (pm_q0_21 (Nat.le_of_ble_eq_true rfl)) rfl rfl ?_
      refine pm_R_op pm_M0 (pc' := 1688) (st' := [.int 2, .int 0, .ref 0, .int x1, .ref 41, .int (-1)]) (pm_q0_21 (Nat.le_of_ble_eq_true rfl)) rfl rfl ?_
      refine pm_R_op pm_M0 (pc' := 1689) (st' := [.int 2, .ref 0, .int x1, .ref 41, .int (-1)]) (pm_q0_21 (Nat.le_of_ble_eq_true rfl)) rfl rfl ?_
      refine pm_R_iald pm_M0 (pc' := 1690) (v := x2) (pm_q0_21 (Nat.le_of_ble_eq_true rfl)) (hh 0 (Nat.le_of_ble_eq_true rfl)) (Nat.le_of_ble_eq_true rfl) rfl hx2 rfl ?_
      refine pm_R_cv pm_M0 (pc' := 1693) (a := 41) (ra := [.int x2, .int x1]) (rest := [.int (-1)]) (ls' := [.ref 41, .int x1, .int x2, pm_no, pm_no, pm_no, pm_no]) (pm_q0_21 (Nat.le_of_ble_eq_true rfl)) rfl (Or.inl rfl) pm_M282 (hh 41 (Nat.le_of_ble_eq_true rfl)) rfl (Nat.le_of_ble_eq_true rfl) (Nat.le_of_ble_eq_true rfl) rfl rfl (Nat.le_of_ble_eq_true rfl) rfl rfl ?_
      refine pm_R_lo pm_M282 (pc' := 1) rfl rfl rfl ?_
      refine pm_R_op pm_M282 (pc' := 2) (st' := [.int 0, .ref 41]) rfl rfl rfl ?_
      refine pm_R_put pm_M282 (pc' := 5) (fs' := [.int 0, .ref 42, .ref 43, .ref 44, .ref 45, .ref 46, .ref 47, .ref 48, .ref 49, .ref 50, .int 0, .int 0, .int 0, .int 0, .int 0, .long 0, .int 0, .int 0, .int 0, .ref 51, .ref 52, .int 0, .int 0, .int 0, .int 0, .ref 53, .int 0, .int 0, .ref 54, .ref 55, .ref 56, .int 0, .ref 57, .ref 58, .ref 59, .ref 60, .ref 61, .ref 62, .ref 63, .ref 64, .ref 65, .ref 66, .int 0, .int 0, .int 0, .ref 67, .ref 68, .int 0, .ref 69, .int 0, .int 0, .ref 70, .ref 71]) rfl rfl rfl (hh 41 (Nat.le_of_ble_eq_true rfl)) (Nat.le_of_ble_eq_true rfl) (Nat.le_of_ble_eq_true rfl) (Nat.le_of_ble_eq_true rfl) rfl (Or.inl rfl) rfl rfl ?_
      refine pm_R_lo pm_M282 (pc' := 6) rfl rfl rfl ?_
      refine pm_R_lo pm_M282 (pc' := 7) rfl rfl rfl ?_
      refine pm_R_lo pm_M282 (pc' := 8) rfl rfl rfl ?_
      refine pm_R_cv pm_M282 (pc' := 11) (a := 41) (ra := [.int x2, .int x1]) (rest := []) (ls' := [.ref 41, .int x1, .int x2]) rfl rfl (Or.inl rfl) pm_M275 rfl rfl (Nat.le_of_ble_eq_true rfl) (Nat.le_of_ble_eq_true rfl) rfl rfl (Nat.le_of_ble_eq_true rfl) rfl rfl ?_
      refine pm_R_lo pm_M275 (pc' := 1) rfl rfl rfl ?_
      refine pm_R_op pm_M275 (pc' := 2) (st' := [.int 3, .ref 41]) rfl rfl rfl ?_
      refine pm_R_lo pm_M275 (pc' := 3) rfl rfl rfl ?_
      refine pm_R_cv pm_M275 (pc' := 6) (a := 41) (ra := [.int x1, .int 3]) (rest := []) (ls' := [.ref 41, .int 3, .int x1]) rfl rfl (Or.inl rfl) pm_M177 rfl rfl (Nat.le_of_ble_eq_true rfl) (Nat.le_of_ble_eq_true rfl) rfl rfl (Nat.le_of_ble_eq_true rfl) rfl rfl ?_
      refine pm_R_lo pm_M177 (pc' := 1) rfl rfl rfl ?_
      refine pm_R_op pm_M177 (pc' := 2) (st' := [.int 0, .int x1]) rfl rfl rfl ?_
      refine pm_R_lo pm_M177 (pc' := 3) rfl rfl rfl ?_
      refine pm_R_get pm_M177 (pc' := 6) (v := .ref 46) rfl rfl rfl (Nat.le_of_ble_eq_true rfl) (Nat.le_of_ble_eq_true rfl) rfl rfl ?_
      refine pm_R_lo pm_M177 (pc' := 7) rfl rfl rfl ?_
      refine pm_R_iald pm_M177 (pc' := 8) (v := 0) rfl (hh 46 (Nat.le_of_ble_eq_true rfl)) (Nat.le_of_ble_eq_true rfl) rfl rfl rfl ?_
      refine pm_R_op pm_M177 (pc' := 9) (st' := [.int 1, .int 0, .int 0, .int x1]) rfl rfl rfl ?_
      refine pm_R_op pm_M177 (pc' := 10) (st' := [.int (-1), .int 0, .int x1]) rfl rfl rfl ?_
      refine pm_R_cs pm_M177 (pc' := 13) (ra := [.int (-1), .int 0, .int x1]) (rest := []) (ls' := [.int x1, .int 0, .int (-1)]) rfl rfl (Or.inl rfl) pm_M174 rfl rfl (Nat.le_of_ble_eq_true rfl) rfl rfl ?_
      refine pm_R_lo pm_M174 (pc' := 1) rfl rfl rfl ?_
      refine pm_R_lo pm_M174 (pc' := 2) rfl rfl rfl ?_
      refine pm_R_icmp pm_M174 (t := 14) (pc' := 5) rfl rfl rfl (fun c_11 => by exact absurd c_11 c_1) (fun c_11 => ?_)
      refine pm_R_lo pm_M174 (pc' := 6) rfl rfl rfl ?_
      refine pm_R_lo pm_M174 (pc' := 7) rfl rfl rfl ?_
      refine pm_R_icmp pm_M174 (t := 14) (pc' := 10) rfl rfl rfl (fun c_12 => ?_) (fun c_12 => by have z0 : ((-1) : Int32).toInt = -1 := (by decide); have z1 : ((0) : Int32).toInt = 0 := (by decide); have q0 := (Int32.le_iff_toInt_le.mp (Int32.not_lt.mp c_1)); have q1 := (Int32.le_iff_toInt_le.mp (Int32.not_lt.mp c_12)); exfalso; omega)
      refine pm_R_op pm_M174 (pc' := 15) (st' := [.int 0]) rfl rfl rfl ?_
      refine pm_R_ret pm_M174 (r := some (.int 0)) rfl rfl ?_
      show pm_R _ 177 13 [.ref 41, .int 3, .int x1] [.int 0] _ _
      refine pm_R_ret pm_M177 (r := some (.int 0)) rfl rfl ?_
      show pm_R _ 275 6 [.ref 41, .int x1, .int x2] [.int 0] _ _
      refine pm_R_br pm_M275 (pc' := 17) (st' := []) rfl rfl ?_
      refine pm_R_op pm_M275 (pc' := 18) (st' := [.int 0]) rfl rfl rfl ?_
      refine pm_R_ret pm_M275 (r := some (.int 0)) rfl rfl ?_
      show pm_R _ 282 11 [.ref 41, .int x1, .int x2, pm_no, pm_no, pm_no, pm_no] [.int 0] _ _
      refine pm_R_br pm_M282 (pc' := 14) (st' := []) rfl rfl ?_
      refine pm_R_op pm_M282 (pc' := 15) (st' := [.int (-1)]) rfl rfl rfl ?_
      refine pm_R_ret pm_M282 (r := some (.int (-1))) rfl rfl ?_
      show pm_R _ 0 1693 [.ref 0, .ref 16, .ref 41, .int 0] [.int (-1), .int (-1)] _ _
      refine pm_R_br pm_M0 (pc' := 2121) (st' := []) (pm_q0_21 (Nat.le_of_ble_eq_true rfl)) rfl ?_
      exact p1_tail (hh 0 (Nat.le_of_ble_eq_true rfl)) (Nat.le_of_ble_eq_true rfl) (Nat.le_of_ble_eq_true rfl) (Nat.le_of_ble_eq_true rfl)
set_option maxRecDepth 100000 in
set_option maxHeartbeats 40000000 in
theorem p1_c33 (xs : Nat → Int32) (f : Nat → pm_E) (hh : ∀ i, i < 72 → f i = pm_fF 7 xs i) (x0 x1 x2 x3 x4 x5 x6 : Int32) (hx0 : xs 0 = x0) (hx1 : xs 1 = x1) (hx2 : xs 2 = x2) (hx3 : xs 3 = x3) (hx4 : xs 4 = x4) (hx5 : xs 5 = x5) (hx6 : xs 6 = x6) : pm_R 100 0 1698 [.ref 0, .ref 16, .ref 41, .int 0] [] (72, 52657, f) p1_Q := by
  refine pm_R_lo pm_M0 (pc' := 1699) (pm_q0_21 (Nat.le_of_ble_eq_true rfl)) rfl rfl ?_
  refine pm_R_lo pm_M0 (pc' := 1700) (pm_q0_21 (Nat.le_of_ble_eq_true rfl)) rfl rfl ?_
  refine pm_R_lo pm_M0 (pc' := 1701) (pm_q0_21 (Nat.le_of_ble_eq_true rfl)) rfl rfl ?_
  refine pm_R_op pm_M0 (pc' := 1702) (st' := [.int 1, .int 0, .ref 0, .ref 16]) (pm_q0_21 (Nat.le_of_ble_eq_true rfl)) rfl rfl ?_
  refine pm_R_op pm_M0 (pc' := 1703) (st' := [.int 1, .ref 0, .ref 16]) (pm_q0_21 (Nat.le_of_ble_eq_true rfl)) rfl rfl ?_
  refine pm_R_iald pm_M0 (pc' := 1704) (v := x1) (pm_q0_21 (Nat.le_of_ble_eq_true rfl)) (hh 0 (Nat.le_of_ble_eq_true rfl)) (Nat.le_of_ble_eq_true rfl) rfl hx1 rfl ?_
  refine pm_R_lo pm_M0 (pc' := 1705) (pm_q0_21 (Nat.le_of_ble_eq_true rfl)) rfl rfl ?_
  refine pm_R_lo pm_M0 (pc' := 1706) (pm_q0_21 (Nat.le_of_ble_eq_true rfl)) rfl rfl ?_
  refine pm_R_op pm_M0 (pc' := 1707) (st' := [.int 2, .int 0, .ref 0, .int x1, .ref 16]) (pm_q0_21 (Nat.le_of_ble_eq_true rfl)) rfl rfl ?_
  refine pm_R_op pm_M0 (pc' := 1708) (st' := [.int 2, .ref 0, .int x1, .ref 16]) (pm_q0_21 (Nat.le_of_ble_eq_true rfl)) rfl rfl ?_
  refine pm_R_iald pm_M0 (pc' := 1709) (v := x2) (pm_q0_21 (Nat.le_of_ble_eq_true rfl)) (hh 0 (Nat.le_of_ble_eq_true rfl)) (Nat.le_of_ble_eq_true rfl) rfl hx2 rfl ?_
  refine pm_R_lo pm_M0 (pc' := 1710) (pm_q0_21 (Nat.le_of_ble_eq_true rfl)) rfl rfl ?_
  refine pm_R_lo pm_M0 (pc' := 1711) (pm_q0_21 (Nat.le_of_ble_eq_true rfl)) rfl rfl ?_
  refine pm_R_op pm_M0 (pc' := 1712) (st' := [.int 3, .int 0, .ref 0, .int x2, .int x1, .ref 16]) (pm_q0_21 (Nat.le_of_ble_eq_true rfl)) rfl rfl ?_
  refine pm_R_op pm_M0 (pc' := 1713) (st' := [.int 3, .ref 0, .int x2, .int x1, .ref 16]) (pm_q0_21 (Nat.le_of_ble_eq_true rfl)) rfl rfl ?_
  refine pm_R_iald pm_M0 (pc' := 1714) (v := x3) (pm_q0_21 (Nat.le_of_ble_eq_true rfl)) (hh 0 (Nat.le_of_ble_eq_true rfl)) (Nat.le_of_ble_eq_true rfl) rfl hx3 rfl ?_
  refine pm_R_lo pm_M0 (pc' := 1715) (pm_q0_21 (Nat.le_of_ble_eq_true rfl)) rfl rfl ?_
  refine pm_R_lo pm_M0 (pc' := 1716) (pm_q0_21 (Nat.le_of_ble_eq_true rfl)) rfl rfl ?_
  refine pm_R_op pm_M0 (pc' := 1717) (st' := [.int 4, .int 0, .ref 0, .int x3, .int x2, .int x1, .ref 16]) (pm_q0_21 (Nat.le_of_ble_eq_true rfl)) rfl rfl ?_
  refine pm_R_op pm_M0 (pc' := 1718) (st' := [.int 4, .ref 0, .int x3, .int x2, .int x1, .ref 16]) (pm_q0_21 (Nat.le_of_ble_eq_true rfl)) rfl rfl ?_
  refine pm_R_iald pm_M0 (pc' := 1719) (v := x4) (pm_q0_21 (Nat.le_of_ble_eq_true rfl)) (hh 0 (Nat.le_of_ble_eq_true rfl)) (Nat.le_of_ble_eq_true rfl) rfl hx4 rfl ?_
  refine pm_R_lo pm_M0 (pc' := 1720) (pm_q0_21 (Nat.le_of_ble_eq_true rfl)) rfl rfl ?_
  refine pm_R_lo pm_M0 (pc' := 1721) (pm_q0_21 (Nat.le_of_ble_eq_true rfl)) rfl rfl ?_
  refine pm_R_op pm_M0 (pc' := 1722) (st' := [.int 5, .int 0, .ref 0, .int x4, .int x3, .int x2, .int x1, .ref 16]) (pm_q0_21 (Nat.le_of_ble_eq_true rfl)) rfl rfl ?_
  refine pm_R_op pm_M0 (pc' := 1723) (st' := [.int 5, .ref 0, .int x4, .int x3, .int x2, .int x1, .ref 16]) (pm_q0_21 (Nat.le_of_ble_eq_true rfl)) rfl rfl ?_
  refine pm_R_iald pm_M0 (pc' := 1724) (v := x5) (pm_q0_21 (Nat.le_of_ble_eq_true rfl)) (hh 0 (Nat.le_of_ble_eq_true rfl)) (Nat.le_of_ble_eq_true rfl) rfl hx5 rfl ?_
  refine pm_R_cv pm_M0 (pc' := 1727) (a := 16) (ra := [.int x5, .int x4, .int x3, .int x2, .int x1]) (rest := []) (ls' := [.ref 16, .int x1, .int x2, .int x3, .int x4, .int x5, pm_no, pm_no, pm_no, pm_no, pm_no, pm_no, pm_no, pm_no]) (pm_q0_21 (Nat.le_of_ble_eq_true rfl)) rfl (Or.inl rfl) pm_M120 (hh 16 (Nat.le_of_ble_eq_true rfl)) rfl (Nat.le_of_ble_eq_true rfl) (Nat.le_of_ble_eq_true rfl) rfl rfl (Nat.le_of_ble_eq_true rfl) rfl rfl ?_
  refine pm_R_lo pm_M120 (pc' := 1) rfl rfl rfl ?_
  refine pm_R_lo pm_M120 (pc' := 2) rfl rfl rfl ?_
  refine pm_R_cv pm_M120 (pc' := 5) (a := 16) (ra := [.int x1]) (rest := []) (ls' := [.ref 16, .int x1]) rfl rfl (Or.inl rfl) pm_M62 (hh 16 (Nat.le_of_ble_eq_true rfl)) rfl (Nat.le_of_ble_eq_true rfl) (Nat.le_of_ble_eq_true rfl) rfl rfl (Nat.le_of_ble_eq_true rfl) rfl rfl ?_
  refine pm_R_lo pm_M62 (pc' := 1) rfl rfl rfl ?_
  refine pm_R_ifc pm_M62 (t := 17) (pc' := 4) rfl rfl rfl (fun c_1 => ?_) (fun c_1 => ?_)
  · refine pm_R_op pm_M62 (pc' := 18) (st' := [.null]) rfl rfl rfl ?_
    refine pm_R_br pm_M62 (pc' := 30) rfl rfl ?_
    refine pm_R_ret pm_M62 (r := some (.null)) rfl rfl ?_
    show pm_R _ 120 5 [.ref 16, .int x1, .int x2, .int x3, .int x4, .int x5, pm_no, pm_no, pm_no, pm_no, pm_no, pm_no, pm_no, pm_no] [.null] _ _
    refine pm_R_lo pm_M120 (pc' := 7) (ls' := [.ref 16, .int x1, .int x2, .int x3, .int x4, .int x5, .null, pm_no, pm_no, pm_no, pm_no, pm_no, pm_no, pm_no]) (st' := []) rfl rfl rfl ?_
    refine pm_R_lo pm_M120 (pc' := 8) rfl rfl rfl ?_
    refine pm_R_lo pm_M120 (pc' := 9) rfl rfl rfl ?_
    refine pm_R_cv pm_M120 (pc' := 12) (a := 16) (ra := [.int x2]) (rest := []) (ls' := [.ref 16, .int x2]) rfl rfl (Or.inl rfl) pm_M66 (hh 16 (Nat.le_of_ble_eq_true rfl)) rfl (Nat.le_of_ble_eq_true rfl) (Nat.le_of_ble_eq_true rfl) rfl rfl (Nat.le_of_ble_eq_true rfl) rfl rfl ?_
    refine pm_R_lo pm_M66 (pc' := 1) rfl rfl rfl ?_
    refine pm_R_ifc pm_M66 (t := 17) (pc' := 4) rfl rfl rfl (fun c_2 => ?_) (fun c_2 => ?_)
    · refine pm_R_op pm_M66 (pc' := 18) (st' := [.null]) rfl rfl rfl ?_
      refine pm_R_br pm_M66 (pc' := 30) rfl rfl ?_
      refine pm_R_ret pm_M66 (r := some (.null)) rfl rfl ?_
      show pm_R _ 120 12 [.ref 16, .int x1, .int x2, .int x3, .int x4, .int x5, .null, pm_no, pm_no, pm_no, pm_no, pm_no, pm_no, pm_no] [.null] _ _
      refine pm_R_lo pm_M120 (pc' := 14) (ls' := [.ref 16, .int x1, .int x2, .int x3, .int x4, .int x5, .null, .null, pm_no, pm_no, pm_no, pm_no, pm_no, pm_no]) (st' := []) rfl rfl rfl ?_
      refine pm_R_lo pm_M120 (pc' := 16) rfl rfl rfl ?_
      refine pm_R_br pm_M120 (pc' := 41) rfl rfl ?_
      refine pm_R_op pm_M120 (pc' := 42) (st' := [.int (-1)]) rfl rfl rfl ?_
      refine pm_R_ret pm_M120 (r := some (.int (-1))) rfl rfl ?_
      show pm_R _ 0 1727 [.ref 0, .ref 16, .ref 41, .int 0] [.int (-1)] _ _
      refine pm_R_lo pm_M0 (pc' := 1728) (pm_q0_21 (Nat.le_of_ble_eq_true rfl)) rfl rfl ?_
      refine pm_R_lo pm_M0 (pc' := 1729) (pm_q0_21 (Nat.le_of_ble_eq_true rfl)) rfl rfl ?_
      refine pm_R_lo pm_M0 (pc' := 1730) (pm_q0_21 (Nat.le_of_ble_eq_true rfl)) rfl rfl ?_
      refine pm_R_op pm_M0 (pc' := 1731) (st' := [.int 1, .int 0, .ref 0, .ref 41, .int (-1)]) (pm_q0_21 (Nat.le_of_ble_eq_true rfl)) rfl rfl ?_
      refine pm_R_op pm_M0 (pc' := 1732) (st' := [.int 1, .ref 0, .ref 41, .int (-1)]) (pm_q0_21 (Nat.le_of_ble_eq_true rfl)) rfl rfl ?_
      refine pm_R_iald pm_M0 (pc' := 1733) (v := x1) (pm_q0_22 (Nat.le_of_ble_eq_true rfl)) (hh 0 (Nat.le_of_ble_eq_true rfl)) (Nat.le_of_ble_eq_true rfl) rfl hx1 rfl ?_
      refine pm_R_lo pm_M0 (pc' := 1734) (pm_q0_22 (Nat.le_of_ble_eq_true rfl)) rfl rfl ?_
      refine pm_R_lo pm_M0 (pc' := 1735) (pm_q0_22 (Nat.le_of_ble_eq_true rfl)) rfl rfl ?_
      refine pm_R_op pm_M0 (pc' := 1736) (st' := [.int 2, .int 0, .ref 0, .int x1, .ref 41, .int (-1)]) (pm_q0_22 (Nat.le_of_ble_eq_true rfl)) rfl rfl ?_
      refine pm_R_op pm_M0 (pc' := 1737) (st' := [.int 2, .ref 0, .int x1, .ref 41, .int (-1)]) (pm_q0_22 (Nat.le_of_ble_eq_true rfl)) rfl rfl ?_
      refine pm_R_iald pm_M0 (pc' := 1738) (v := x2) (pm_q0_22 (Nat.le_of_ble_eq_true rfl)) (hh 0 (Nat.le_of_ble_eq_true rfl)) (Nat.le_of_ble_eq_true rfl) rfl hx2 rfl ?_
      refine pm_R_lo pm_M0 (pc' := 1739) (pm_q0_22 (Nat.le_of_ble_eq_true rfl)) rfl rfl ?_
      refine pm_R_lo pm_M0 (pc' := 1740) (pm_q0_22 (Nat.le_of_ble_eq_true rfl)) rfl rfl ?_
      refine pm_R_op pm_M0 (pc' := 1741) (st' := [.int 3, .int 0, .ref 0, .int x2, .int x1, .ref 41, .int (-1)]) (pm_q0_22 (Nat.le_of_ble_eq_true rfl)) rfl rfl ?_
      refine pm_R_op pm_M0 (pc' := 1742) (st' := [.int 3, .ref 0, .int x2, .int x1, .ref 41, .int (-1)]) (pm_q0_22 (Nat.le_of_ble_eq_true rfl)) rfl rfl ?_
      refine pm_R_iald pm_M0 (pc' := 1743) (v := x3) (pm_q0_22 (Nat.le_of_ble_eq_true rfl)) (hh 0 (Nat.le_of_ble_eq_true rfl)) (Nat.le_of_ble_eq_true rfl) rfl hx3 rfl ?_
      refine pm_R_lo pm_M0 (pc' := 1744) (pm_q0_22 (Nat.le_of_ble_eq_true rfl)) rfl rfl ?_
      refine pm_R_lo pm_M0 (pc' := 1745) (pm_q0_22 (Nat.le_of_ble_eq_true rfl)) rfl rfl ?_
      refine pm_R_op pm_M0 (pc' := 1746) (st' := [.int 4, .int 0, .ref 0, .int x3, .int x2, .int x1, .ref 41, .int (-1)]) (pm_q0_22 (Nat.le_of_ble_eq_true rfl)) rfl rfl ?_
      refine pm_R_op pm_M0 (pc' := 1747) (st' := [.int 4, .ref 0, .int x3, .int x2, .int x1, .ref 41, .int (-1)]) (pm_q0_22 (Nat.le_of_ble_eq_true rfl)) rfl rfl ?_
      refine pm_R_iald pm_M0 (pc' := 1748) (v := x4) (pm_q0_22 (Nat.le_of_ble_eq_true rfl)) (hh 0 (Nat.le_of_ble_eq_true rfl)) (Nat.le_of_ble_eq_true rfl) rfl hx4 rfl ?_
      refine pm_R_lo pm_M0 (pc' := 1749) (pm_q0_22 (Nat.le_of_ble_eq_true rfl)) rfl rfl ?_
      refine pm_R_lo pm_M0 (pc' := 1750) (pm_q0_22 (Nat.le_of_ble_eq_true rfl)) rfl rfl ?_
      refine pm_R_op pm_M0 (pc' := 1751) (st' := [.int 5, .int 0, .ref 0, .int x4, .int x3, .int x2, .int x1, .ref 41, .int (-1)]) (pm_q0_22 (Nat.le_of_ble_eq_true rfl)) rfl rfl ?_
      refine pm_R_op pm_M0 (pc' := 1752) (st' := [.int 5, .ref 0, .int x4, .int x3, .int x2, .int x1, .ref 41, .int (-1)]) (pm_q0_22 (Nat.le_of_ble_eq_true rfl)) rfl rfl ?_
      refine pm_R_iald pm_M0 (pc' := 1753) (v := x5) (pm_q0_22 (Nat.le_of_ble_eq_true rfl)) (hh 0 (Nat.le_of_ble_eq_true rfl)) (Nat.le_of_ble_eq_true rfl) rfl hx5 rfl ?_
      refine pm_R_cv pm_M0 (pc' := 1756) (a := 41) (ra := [.int x5, .int x4, .int x3, .int x2, .int x1]) (rest := [.int (-1)]) (ls' := [.ref 41, .int x1, .int x2, .int x3, .int x4, .int x5, pm_no, pm_no]) (pm_q0_22 (Nat.le_of_ble_eq_true rfl)) rfl (Or.inl rfl) pm_M284 (hh 41 (Nat.le_of_ble_eq_true rfl)) rfl (Nat.le_of_ble_eq_true rfl) (Nat.le_of_ble_eq_true rfl) rfl rfl (Nat.le_of_ble_eq_true rfl) rfl rfl ?_
      refine pm_R_lo pm_M284 (pc' := 1) rfl rfl rfl ?_
      refine pm_R_op pm_M284 (pc' := 2) (st' := [.int 0, .ref 41]) rfl rfl rfl ?_
      refine pm_R_put pm_M284 (pc' := 5) (fs' := [.int 0, .ref 42, .ref 43, .ref 44, .ref 45, .ref 46, .ref 47, .ref 48, .ref 49, .ref 50, .int 0, .int 0, .int 0, .int 0, .int 0, .long 0, .int 0, .int 0, .int 0, .ref 51, .ref 52, .int 0, .int 0, .int 0, .int 0, .ref 53, .int 0, .int 0, .ref 54, .ref 55, .ref 56, .int 0, .ref 57, .ref 58, .ref 59, .ref 60, .ref 61, .ref 62, .ref 63, .ref 64, .ref 65, .ref 66, .int 0, .int 0, .int 0, .ref 67, .ref 68, .int 0, .ref 69, .int 0, .int 0, .ref 70, .ref 71]) rfl rfl rfl (hh 41 (Nat.le_of_ble_eq_true rfl)) (Nat.le_of_ble_eq_true rfl) (Nat.le_of_ble_eq_true rfl) (Nat.le_of_ble_eq_true rfl) rfl (Or.inl rfl) rfl rfl ?_
      refine pm_R_lo pm_M284 (pc' := 6) rfl rfl rfl ?_
      refine pm_R_op pm_M284 (pc' := 7) (st' := [.int 0, .int x3]) rfl rfl rfl ?_
      refine pm_R_op pm_M284 (pc' := 9) (st' := [.int 9, .int 0, .int x3]) rfl rfl rfl ?_
      refine pm_R_cs pm_M284 (pc' := 12) (ra := [.int 9, .int 0, .int x3]) (rest := []) (ls' := [.int x3, .int 0, .int 9]) rfl rfl (Or.inl rfl) pm_M174 rfl rfl (Nat.le_of_ble_eq_true rfl) rfl rfl ?_
      refine pm_R_lo pm_M174 (pc' := 1) rfl rfl rfl ?_
      refine pm_R_lo pm_M174 (pc' := 2) rfl rfl rfl ?_
      refine pm_R_icmp pm_M174 (t := 14) (pc' := 5) rfl rfl rfl (fun c_3 => ?_) (fun c_3 => ?_)
      · refine pm_R_op pm_M174 (pc' := 15) (st' := [.int 0]) rfl rfl rfl ?_
        refine pm_R_ret pm_M174 (r := some (.int 0)) rfl rfl ?_
        show pm_R _ 284 12 [.ref 41, .int x1, .int x2, .int x3, .int x4, .int x5, pm_no, pm_no] [.int 0] _ _
        refine pm_R_br pm_M284 (pc' := 39) (st' := []) rfl rfl ?_
        refine pm_R_op pm_M284 (pc' := 40) (st' := [.int (-1)]) rfl rfl rfl ?_
        refine pm_R_ret pm_M284 (r := some (.int (-1))) rfl rfl ?_
        show pm_R _ 0 1756 [.ref 0, .ref 16, .ref 41, .int 0] [.int (-1), .int (-1)] _ _
        refine pm_R_br pm_M0 (pc' := 2121) (st' := []) (pm_q0_22 (Nat.le_of_ble_eq_true rfl)) rfl ?_
        exact p1_tail (hh 0 (Nat.le_of_ble_eq_true rfl)) (Nat.le_of_ble_eq_true rfl) (Nat.le_of_ble_eq_true rfl) (Nat.le_of_ble_eq_true rfl)
      · refine pm_R_lo pm_M174 (pc' := 6) rfl rfl rfl ?_
        refine pm_R_lo pm_M174 (pc' := 7) rfl rfl rfl ?_
        refine pm_R_icmp pm_M174 (t := 14) (pc' := 10) rfl rfl rfl (fun c_4 => ?_) (fun c_4 => ?_)
        · refine pm_R_op pm_M174 (pc' := 15) (st' := [.int 0]) rfl rfl rfl ?_
          refine pm_R_ret pm_M174 (r := some (.int 0)) rfl rfl ?_
          show pm_R _ 284 12 [.ref 41, .int x1, .int x2, .int x3, .int x4, .int x5, pm_no, pm_no] [.int 0] _ _
          refine pm_R_br pm_M284 (pc' := 39) (st' := []) rfl rfl ?_
          refine pm_R_op pm_M284 (pc' := 40) (st' := [.int (-1)]) rfl rfl rfl ?_
          refine pm_R_ret pm_M284 (r := some (.int (-1))) rfl rfl ?_
          show pm_R _ 0 1756 [.ref 0, .ref 16, .ref 41, .int 0] [.int (-1), .int (-1)] _ _
          refine pm_R_br pm_M0 (pc' := 2121) (st' := []) (pm_q0_22 (Nat.le_of_ble_eq_true rfl)) rfl ?_
          exact p1_tail (hh 0 (Nat.le_of_ble_eq_true rfl)) (Nat.le_of_ble_eq_true rfl) (Nat.le_of_ble_eq_true rfl) (Nat.le_of_ble_eq_true rfl)
        · refine pm_R_op pm_M174 (pc' := 11) (st' := [.int 1]) rfl rfl rfl ?_
          refine pm_R_br pm_M174 (pc' := 15) rfl rfl ?_
          refine pm_R_ret pm_M174 (r := some (.int 1)) rfl rfl ?_
          show pm_R _ 284 12 [.ref 41, .int x1, .int x2, .int x3, .int x4, .int x5, pm_no, pm_no] [.int 1] _ _
          refine pm_R_br pm_M284 (pc' := 15) (st' := []) rfl rfl ?_
          refine pm_R_lo pm_M284 (pc' := 16) rfl rfl rfl ?_
          refine pm_R_lo pm_M284 (pc' := 17) rfl rfl rfl ?_
          refine pm_R_lo pm_M284 (pc' := 18) rfl rfl rfl ?_
          refine pm_R_cv pm_M284 (pc' := 21) (a := 41) (ra := [.int x2, .int x1]) (rest := []) (ls' := [.ref 41, .int x1, .int x2]) rfl rfl (Or.inl rfl) pm_M200 rfl rfl (Nat.le_of_ble_eq_true rfl) (Nat.le_of_ble_eq_true rfl) rfl rfl (Nat.le_of_ble_eq_true rfl) rfl rfl ?_
          refine pm_R_lo pm_M200 (pc' := 1) rfl rfl rfl ?_
          refine pm_R_op pm_M200 (pc' := 2) (st' := [.int 0, .ref 41]) rfl rfl rfl ?_
          refine pm_R_lo pm_M200 (pc' := 3) rfl rfl rfl ?_
          refine pm_R_cv pm_M200 (pc' := 6) (a := 41) (ra := [.int x1, .int 0]) (rest := []) (ls' := [.ref 41, .int 0, .int x1]) rfl rfl (Or.inl rfl) pm_M177 rfl rfl (Nat.le_of_ble_eq_true rfl) (Nat.le_of_ble_eq_true rfl) rfl rfl (Nat.le_of_ble_eq_true rfl) rfl rfl ?_
          refine pm_R_lo pm_M177 (pc' := 1) rfl rfl rfl ?_
          refine pm_R_op pm_M177 (pc' := 2) (st' := [.int 0, .int x1]) rfl rfl rfl ?_
          refine pm_R_lo pm_M177 (pc' := 3) rfl rfl rfl ?_
          refine pm_R_get pm_M177 (pc' := 6) (v := .ref 46) rfl rfl rfl (Nat.le_of_ble_eq_true rfl) (Nat.le_of_ble_eq_true rfl) rfl rfl ?_
          refine pm_R_lo pm_M177 (pc' := 7) rfl rfl rfl ?_
          refine pm_R_iald pm_M177 (pc' := 8) (v := 0) rfl (hh 46 (Nat.le_of_ble_eq_true rfl)) (Nat.le_of_ble_eq_true rfl) rfl rfl rfl ?_
          refine pm_R_op pm_M177 (pc' := 9) (st' := [.int 1, .int 0, .int 0, .int x1]) rfl rfl rfl ?_
          refine pm_R_op pm_M177 (pc' := 10) (st' := [.int (-1), .int 0, .int x1]) rfl rfl rfl ?_
          refine pm_R_cs pm_M177 (pc' := 13) (ra := [.int (-1), .int 0, .int x1]) (rest := []) (ls' := [.int x1, .int 0, .int (-1)]) rfl rfl (Or.inl rfl) pm_M174 rfl rfl (Nat.le_of_ble_eq_true rfl) rfl rfl ?_
          refine pm_R_lo pm_M174 (pc' := 1) rfl rfl rfl ?_
          refine pm_R_lo pm_M174 (pc' := 2) rfl rfl rfl ?_
          refine pm_R_icmp pm_M174 (t := 14) (pc' := 5) rfl rfl rfl (fun c_5 => ?_) (fun c_5 => by exact absurd c_1 c_5)
          refine pm_R_op pm_M174 (pc' := 15) (st' := [.int 0]) rfl rfl rfl ?_
          refine pm_R_ret pm_M174 (r := some (.int 0)) rfl rfl ?_
          show pm_R _ 177 13 [.ref 41, .int 0, .int x1] [.int 0] _ _
          refine pm_R_ret pm_M177 (r := some (.int 0)) rfl rfl ?_
          show pm_R _ 200 6 [.ref 41, .int x1, .int x2] [.int 0] _ _
          refine pm_R_br pm_M200 (pc' := 18) (st' := []) rfl rfl ?_
          refine pm_R_op pm_M200 (pc' := 19) (st' := [.int 0]) rfl rfl rfl ?_
          refine pm_R_ret pm_M200 (r := some (.int 0)) rfl rfl ?_
          show pm_R _ 284 21 [.ref 41, .int x1, .int x2, .int x3, .int x4, .int x5, pm_no, pm_no] [.int 0] _ _
          refine pm_R_br pm_M284 (pc' := 39) (st' := []) rfl rfl ?_
          refine pm_R_op pm_M284 (pc' := 40) (st' := [.int (-1)]) rfl rfl rfl ?_
          refine pm_R_ret pm_M284 (r := some (.int (-1))) rfl rfl ?_
          show pm_R _ 0 1756 [.ref 0, .ref 16, .ref 41, .int 0] [.int (-1), .int (-1)] _ _
          refine pm_R_br pm_M0 (pc' := 2121) (st' := []) (pm_q0_22 (Nat.le_of_ble_eq_true rfl)) rfl ?_
          exact p1_tail (hh 0 (Nat.le_of_ble_eq_true rfl)) (Nat.le_of_ble_eq_true rfl) (Nat.le_of_ble_eq_true rfl) (Nat.le_of_ble_eq_true rfl)
    · refine pm_R_lo pm_M66 (pc' := 5) rfl rfl rfl ?_
      refine pm_R_lo pm_M66 (pc' := 6) rfl rfl rfl ?_
      refine pm_R_get pm_M66 (pc' := 9) (v := .ref 17) rfl rfl (hh 16 (Nat.le_of_ble_eq_true rfl)) (Nat.le_of_ble_eq_true rfl) (Nat.le_of_ble_eq_true rfl) rfl rfl ?_
      refine pm_R_get pm_M66 (pc' := 12) (v := .ref 23) rfl rfl (hh 17 (Nat.le_of_ble_eq_true rfl)) (Nat.le_of_ble_eq_true rfl) (Nat.le_of_ble_eq_true rfl) rfl rfl ?_
      refine pm_R_op pm_M66 (pc' := 13) (st' := [.int 1, .ref 23, .int x2]) rfl rfl rfl ?_
      refine pm_R_iald pm_M66 (pc' := 14) (v := 0) rfl (hh 23 (Nat.le_of_ble_eq_true rfl)) (Nat.le_of_ble_eq_true rfl) rfl rfl rfl ?_
      refine pm_R_icmp pm_M66 (t := 21) (pc' := 17) rfl rfl rfl (fun c_6 => by exact absurd c_6 c_2) (fun c_6 => ?_)
      refine pm_R_op pm_M66 (pc' := 18) (st' := [.null]) rfl rfl rfl ?_
      refine pm_R_br pm_M66 (pc' := 30) rfl rfl ?_
      refine pm_R_ret pm_M66 (r := some (.null)) rfl rfl ?_
      show pm_R _ 120 12 [.ref 16, .int x1, .int x2, .int x3, .int x4, .int x5, .null, pm_no, pm_no, pm_no, pm_no, pm_no, pm_no, pm_no] [.null] _ _
      refine pm_R_lo pm_M120 (pc' := 14) (ls' := [.ref 16, .int x1, .int x2, .int x3, .int x4, .int x5, .null, .null, pm_no, pm_no, pm_no, pm_no, pm_no, pm_no]) (st' := []) rfl rfl rfl ?_
      refine pm_R_lo pm_M120 (pc' := 16) rfl rfl rfl ?_
      refine pm_R_br pm_M120 (pc' := 41) rfl rfl ?_
      refine pm_R_op pm_M120 (pc' := 42) (st' := [.int (-1)]) rfl rfl rfl ?_
      refine pm_R_ret pm_M120 (r := some (.int (-1))) rfl rfl ?_
      show pm_R _ 0 1727 [.ref 0, .ref 16, .ref 41, .int 0] [.int (-1)] _ _
      refine pm_R_lo pm_M0 (pc' := 1728) (pm_q0_21 (Nat.le_of_ble_eq_true rfl)) rfl rfl ?_
      refine pm_R_lo pm_M0 (pc' := 1729) (pm_q0_21 (Nat.le_of_ble_eq_true rfl)) rfl rfl ?_
      refine pm_R_lo pm_M0 (pc' := 1730) (pm_q0_21 (Nat.le_of_ble_eq_true rfl)) rfl rfl ?_
      refine pm_R_op pm_M0 (pc' := 1731) (st' := [.int 1, .int 0, .ref 0, .ref 41, .int (-1)]) (pm_q0_21 (Nat.le_of_ble_eq_true rfl)) rfl rfl ?_
      refine pm_R_op pm_M0 (pc' := 1732) (st' := [.int 1, .ref 0, .ref 41, .int (-1)]) (pm_q0_21 (Nat.le_of_ble_eq_true rfl)) rfl rfl ?_
      refine pm_R_iald pm_M0 (pc' := 1733) (v := x1) (pm_q0_22 (Nat.le_of_ble_eq_true rfl)) (hh 0 (Nat.le_of_ble_eq_true rfl)) (Nat.le_of_ble_eq_true rfl) rfl hx1 rfl ?_
      refine pm_R_lo pm_M0 (pc' := 1734) (pm_q0_22 (Nat.le_of_ble_eq_true rfl)) rfl rfl ?_
      refine pm_R_lo pm_M0 (pc' := 1735) (pm_q0_22 (Nat.le_of_ble_eq_true rfl)) rfl rfl ?_
      refine pm_R_op pm_M0 (pc' := 1736) (st' := [.int 2, .int 0, .ref 0, .int x1, .ref 41, .int (-1)]) (pm_q0_22 (Nat.le_of_ble_eq_true rfl)) rfl rfl ?_
      refine pm_R_op pm_M0 (pc' := 1737) (st' := [.int 2, .ref 0, .int x1, .ref 41, .int (-1)]) (pm_q0_22 (Nat.le_of_ble_eq_true rfl)) rfl rfl ?_
      refine pm_R_iald pm_M0 (pc' := 1738) (v := x2) (pm_q0_22 (Nat.le_of_ble_eq_true rfl)) (hh 0 (Nat.le_of_ble_eq_true rfl)) (Nat.le_of_ble_eq_true rfl) rfl hx2 rfl ?_
      refine pm_R_lo pm_M0 (pc' := 1739) (pm_q0_22 (Nat.le_of_ble_eq_true rfl)) rfl rfl ?_
      refine pm_R_lo pm_M0 (pc' := 1740) (pm_q0_22 (Nat.le_of_ble_eq_true rfl)) rfl rfl ?_
      refine pm_R_op pm_M0 (pc' := 1741) (st' := [.int 3, .int 0, .ref 0, .int x2, .int x1, .ref 41, .int (-1)]) (pm_q0_22 (Nat.le_of_ble_eq_true rfl)) rfl rfl ?_
      refine pm_R_op pm_M0 (pc' := 1742) (st' := [.int 3, .ref 0, .int x2, .int x1, .ref 41, .int (-1)]) (pm_q0_22 (Nat.le_of_ble_eq_true rfl)) rfl rfl ?_
      refine pm_R_iald pm_M0 (pc' := 1743) (v := x3) (pm_q0_22 (Nat.le_of_ble_eq_true rfl)) (hh 0 (Nat.le_of_ble_eq_true rfl)) (Nat.le_of_ble_eq_true rfl) rfl hx3 rfl ?_
      refine pm_R_lo pm_M0 (pc' := 1744) (pm_q0_22 (Nat.le_of_ble_eq_true rfl)) rfl rfl ?_
      refine pm_R_lo pm_M0 (pc' := 1745) (pm_q0_22 (Nat.le_of_ble_eq_true rfl)) rfl rfl ?_
      refine pm_R_op pm_M0 (pc' := 1746) (st' := [.int 4, .int 0, .ref 0, .int x3, .int x2, .int x1, .ref 41, .int (-1)]) (pm_q0_22 (Nat.le_of_ble_eq_true rfl)) rfl rfl ?_
      refine pm_R_op pm_M0 (pc' := 1747) (st' := [.int 4, .ref 0, .int x3, .int x2, .int x1, .ref 41, .int (-1)]) (pm_q0_22 (Nat.le_of_ble_eq_true rfl)) rfl rfl ?_
      refine pm_R_iald pm_M0 (pc' := 1748) (v := x4) (pm_q0_22 (Nat.le_of_ble_eq_true rfl)) (hh 0 (Nat.le_of_ble_eq_true rfl)) (Nat.le_of_ble_eq_true rfl) rfl hx4 rfl ?_
      refine pm_R_lo pm_M0 (pc' := 1749) (pm_q0_22 (Nat.le_of_ble_eq_true rfl)) rfl rfl ?_
      refine pm_R_lo pm_M0 (pc' := 1750) (pm_q0_22 (Nat.le_of_ble_eq_true rfl)) rfl rfl ?_
      refine pm_R_op pm_M0 (pc' := 1751) (st' := [.int 5, .int 0, .ref 0, .int x4, .int x3, .int x2, .int x1, .ref 41, .int (-1)]) (pm_q0_22 (Nat.le_of_ble_eq_true rfl)) rfl rfl ?_
      refine pm_R_op pm_M0 (pc' := 1752) (st' := [.int 5, .ref 0, .int x4, .int x3, .int x2, .int x1, .ref 41, .int (-1)]) (pm_q0_22 (Nat.le_of_ble_eq_true rfl)) rfl rfl ?_
      refine pm_R_iald pm_M0 (pc' := 1753) (v := x5) (pm_q0_22 (Nat.le_of_ble_eq_true rfl)) (hh 0 (Nat.le_of_ble_eq_true rfl)) (Nat.le_of_ble_eq_true rfl) rfl hx5 rfl ?_
      refine pm_R_cv pm_M0 (pc' := 1756) (a := 41) (ra := [.int x5, .int x4, .int x3, .int x2, .int x1]) (rest := [.int (-1)]) (ls' := [.ref 41, .int x1, .int x2, .int x3, .int x4, .int x5, pm_no, pm_no]) (pm_q0_22 (Nat.le_of_ble_eq_true rfl)) rfl (Or.inl rfl) pm_M284 (hh 41 (Nat.le_of_ble_eq_true rfl)) rfl (Nat.le_of_ble_eq_true rfl) (Nat.le_of_ble_eq_true rfl) rfl rfl (Nat.le_of_ble_eq_true rfl) rfl rfl ?_
      refine pm_R_lo pm_M284 (pc' := 1) rfl rfl rfl ?_
      refine pm_R_op pm_M284 (pc' := 2) (st' := [.int 0, .ref 41]) rfl rfl rfl ?_
      refine pm_R_put pm_M284 (pc' := 5) (fs' := [.int 0, .ref 42, .ref 43, .ref 44, .ref 45, .ref 46, .ref 47, .ref 48, .ref 49, .ref 50, .int 0, .int 0, .int 0, .int 0, .int 0, .long 0, .int 0, .int 0, .int 0, .ref 51, .ref 52, .int 0, .int 0, .int 0, .int 0, .ref 53, .int 0, .int 0, .ref 54, .ref 55, .ref 56, .int 0, .ref 57, .ref 58, .ref 59, .ref 60, .ref 61, .ref 62, .ref 63, .ref 64, .ref 65, .ref 66, .int 0, .int 0, .int 0, .ref 67, .ref 68, .int 0, .ref 69, .int 0, .int 0, .ref 70, .ref 71]) rfl rfl rfl (hh 41 (Nat.le_of_ble_eq_true rfl)) (Nat.le_of_ble_eq_true rfl) (Nat.le_of_ble_eq_true rfl) (Nat.le_of_ble_eq_true rfl) rfl (Or.inl rfl) rfl rfl ?_
      refine pm_R_lo pm_M284 (pc' := 6) rfl rfl rfl ?_
      refine pm_R_op pm_M284 (pc' := 7) (st' := [.int 0, .int x3]) rfl rfl rfl ?_
      refine pm_R_op pm_M284 (pc' := 9) (st' := [.int 9, .int 0, .int x3]) rfl rfl rfl ?_
      refine pm_R_cs pm_M284 (pc' := 12) (ra := [.int 9, .int 0, .int x3]) (rest := []) (ls' := [.int x3, .int 0, .int 9]) rfl rfl (Or.inl rfl) pm_M174 rfl rfl (Nat.le_of_ble_eq_true rfl) rfl rfl ?_
      refine pm_R_lo pm_M174 (pc' := 1) rfl rfl rfl ?_
      refine pm_R_lo pm_M174 (pc' := 2) rfl rfl rfl ?_
      refine pm_R_icmp pm_M174 (t := 14) (pc' := 5) rfl rfl rfl (fun c_7 => ?_) (fun c_7 => ?_)
      · refine pm_R_op pm_M174 (pc' := 15) (st' := [.int 0]) rfl rfl rfl ?_
        refine pm_R_ret pm_M174 (r := some (.int 0)) rfl rfl ?_
        show pm_R _ 284 12 [.ref 41, .int x1, .int x2, .int x3, .int x4, .int x5, pm_no, pm_no] [.int 0] _ _
        refine pm_R_br pm_M284 (pc' := 39) (st' := []) rfl rfl ?_
        refine pm_R_op pm_M284 (pc' := 40) (st' := [.int (-1)]) rfl rfl rfl ?_
        refine pm_R_ret pm_M284 (r := some (.int (-1))) rfl rfl ?_
        show pm_R _ 0 1756 [.ref 0, .ref 16, .ref 41, .int 0] [.int (-1), .int (-1)] _ _
        refine pm_R_br pm_M0 (pc' := 2121) (st' := []) (pm_q0_22 (Nat.le_of_ble_eq_true rfl)) rfl ?_
        exact p1_tail (hh 0 (Nat.le_of_ble_eq_true rfl)) (Nat.le_of_ble_eq_true rfl) (Nat.le_of_ble_eq_true rfl) (Nat.le_of_ble_eq_true rfl)
      · refine pm_R_lo pm_M174 (pc' := 6) rfl rfl rfl ?_
        refine pm_R_lo pm_M174 (pc' := 7) rfl rfl rfl ?_
        refine pm_R_icmp pm_M174 (t := 14) (pc' := 10) rfl rfl rfl (fun c_8 => ?_) (fun c_8 => ?_)
        · refine pm_R_op pm_M174 (pc' := 15) (st' := [.int 0]) rfl rfl rfl ?_
          refine pm_R_ret pm_M174 (r := some (.int 0)) rfl rfl ?_
          show pm_R _ 284 12 [.ref 41, .int x1, .int x2, .int x3, .int x4, .int x5, pm_no, pm_no] [.int 0] _ _
          refine pm_R_br pm_M284 (pc' := 39) (st' := []) rfl rfl ?_
          refine pm_R_op pm_M284 (pc' := 40) (st' := [.int (-1)]) rfl rfl rfl ?_
          refine pm_R_ret pm_M284 (r := some (.int (-1))) rfl rfl ?_
          show pm_R _ 0 1756 [.ref 0, .ref 16, .ref 41, .int 0] [.int (-1), .int (-1)] _ _
          refine pm_R_br pm_M0 (pc' := 2121) (st' := []) (pm_q0_22 (Nat.le_of_ble_eq_true rfl)) rfl ?_
          exact p1_tail (hh 0 (Nat.le_of_ble_eq_true rfl)) (Nat.le_of_ble_eq_true rfl) (Nat.le_of_ble_eq_true rfl) (Nat.le_of_ble_eq_true rfl)
        · refine pm_R_op pm_M174 (pc' := 11) (st' := [.int 1]) rfl rfl rfl ?_
          refine pm_R_br pm_M174 (pc' := 15) rfl rfl ?_
          refine pm_R_ret pm_M174 (r := some (.int 1)) rfl rfl ?_
          show pm_R _ 284 12 [.ref 41, .int x1, .int x2, .int x3, .int x4, .int x5, pm_no, pm_no] [.int 1] _ _
          refine pm_R_br pm_M284 (pc' := 15) (st' := []) rfl rfl ?_
          refine pm_R_lo pm_M284 (pc' := 16) rfl rfl rfl ?_
          refine pm_R_lo pm_M284 (pc' := 17) rfl rfl rfl ?_
          refine pm_R_lo pm_M284 (pc' := 18) rfl rfl rfl ?_
          refine pm_R_cv pm_M284 (pc' := 21) (a := 41) (ra := [.int x2, .int x1]) (rest := []) (ls' := [.ref 41, .int x1, .int x2]) rfl rfl (Or.inl rfl) pm_M200 rfl rfl (Nat.le_of_ble_eq_true rfl) (Nat.le_of_ble_eq_true rfl) rfl rfl (Nat.le_of_ble_eq_true rfl) rfl rfl ?_
          refine pm_R_lo pm_M200 (pc' := 1) rfl rfl rfl ?_
          refine pm_R_op pm_M200 (pc' := 2) (st' := [.int 0, .ref 41]) rfl rfl rfl ?_
          refine pm_R_lo pm_M200 (pc' := 3) rfl rfl rfl ?_
          refine pm_R_cv pm_M200 (pc' := 6) (a := 41) (ra := [.int x1, .int 0]) (rest := []) (ls' := [.ref 41, .int 0, .int x1]) rfl rfl (Or.inl rfl) pm_M177 rfl rfl (Nat.le_of_ble_eq_true rfl) (Nat.le_of_ble_eq_true rfl) rfl rfl (Nat.le_of_ble_eq_true rfl) rfl rfl ?_
          refine pm_R_lo pm_M177 (pc' := 1) rfl rfl rfl ?_
          refine pm_R_op pm_M177 (pc' := 2) (st' := [.int 0, .int x1]) rfl rfl rfl ?_
          refine pm_R_lo pm_M177 (pc' := 3) rfl rfl rfl ?_
          refine pm_R_get pm_M177 (pc' := 6) (v := .ref 46) rfl rfl rfl (Nat.le_of_ble_eq_true rfl) (Nat.le_of_ble_eq_true rfl) rfl rfl ?_
          refine pm_R_lo pm_M177 (pc' := 7) rfl rfl rfl ?_
          refine pm_R_iald pm_M177 (pc' := 8) (v := 0) rfl (hh 46 (Nat.le_of_ble_eq_true rfl)) (Nat.le_of_ble_eq_true rfl) rfl rfl rfl ?_
          refine pm_R_op pm_M177 (pc' := 9) (st' := [.int 1, .int 0, .int 0, .int x1]) rfl rfl rfl ?_
          refine pm_R_op pm_M177 (pc' := 10) (st' := [.int (-1), .int 0, .int x1]) rfl rfl rfl ?_
          refine pm_R_cs pm_M177 (pc' := 13) (ra := [.int (-1), .int 0, .int x1]) (rest := []) (ls' := [.int x1, .int 0, .int (-1)]) rfl rfl (Or.inl rfl) pm_M174 rfl rfl (Nat.le_of_ble_eq_true rfl) rfl rfl ?_
          refine pm_R_lo pm_M174 (pc' := 1) rfl rfl rfl ?_
          refine pm_R_lo pm_M174 (pc' := 2) rfl rfl rfl ?_
          refine pm_R_icmp pm_M174 (t := 14) (pc' := 5) rfl rfl rfl (fun c_9 => ?_) (fun c_9 => by exact absurd c_1 c_9)
          refine pm_R_op pm_M174 (pc' := 15) (st' := [.int 0]) rfl rfl rfl ?_
          refine pm_R_ret pm_M174 (r := some (.int 0)) rfl rfl ?_
          show pm_R _ 177 13 [.ref 41, .int 0, .int x1] [.int 0] _ _
          refine pm_R_ret pm_M177 (r := some (.int 0)) rfl rfl ?_
          show pm_R _ 200 6 [.ref 41, .int x1, .int x2] [.int 0] _ _
          refine pm_R_br pm_M200 (pc' := 18) (st' := []) rfl rfl ?_
          refine pm_R_op pm_M200 (pc' := 19) (st' := [.int 0]) rfl rfl rfl ?_
          refine pm_R_ret pm_M200 (r := some (.int 0)) rfl rfl ?_
          show pm_R _ 284 21 [.ref 41, .int x1, .int x2, .int x3, .int x4, .int x5, pm_no, pm_no] [.int 0] _ _
          refine pm_R_br pm_M284 (pc' := 39) (st' := []) rfl rfl ?_
          refine pm_R_op pm_M284 (pc' := 40) (st' := [.int (-1)]) rfl rfl rfl ?_
          refine pm_R_ret pm_M284 (r := some (.int (-1))) rfl rfl ?_
          show pm_R _ 0 1756 [.ref 0, .ref 16, .ref 41, .int 0] [.int (-1), .int (-1)] _ _
          refine pm_R_br pm_M0 (pc' := 2121) (st' := []) (pm_q0_22 (Nat.le_of_ble_eq_true rfl)) rfl ?_
          exact p1_tail (hh 0 (Nat.le_of_ble_eq_true rfl)) (Nat.le_of_ble_eq_true rfl) (Nat.le_of_ble_eq_true rfl) (Nat.le_of_ble_eq_true rfl)
  · refine pm_R_lo pm_M62 (pc' := 5) rfl rfl rfl ?_
    refine pm_R_lo pm_M62 (pc' := 6) rfl rfl rfl ?_
    refine pm_R_get pm_M62 (pc' := 9) (v := .ref 17) rfl rfl (hh 16 (Nat.le_of_ble_eq_true rfl)) (Nat.le_of_ble_eq_true rfl) (Nat.le_of_ble_eq_true rfl) rfl rfl ?_
    refine pm_R_get pm_M62 (pc' := 12) (v := .ref 23) rfl rfl (hh 17 (Nat.le_of_ble_eq_true rfl)) (Nat.le_of_ble_eq_true rfl) (Nat.le_of_ble_eq_true rfl) rfl rfl ?_
    refine pm_R_op pm_M62 (pc' := 13) (st' := [.int 0, .ref 23, .int x1]) rfl rfl rfl ?_
    refine pm_R_iald pm_M62 (pc' := 14) (v := 0) rfl (hh 23 (Nat.le_of_ble_eq_true rfl)) (Nat.le_of_ble_eq_true rfl) rfl rfl rfl ?_
    refine pm_R_icmp pm_M62 (t := 21) (pc' := 17) rfl rfl rfl (fun c_10 => by exact absurd c_10 c_1) (fun c_10 => ?_)
    refine pm_R_op pm_M62 (pc' := 18) (st' := [.null]) rfl rfl rfl ?_
    refine pm_R_br pm_M62 (pc' := 30) rfl rfl ?_
    refine pm_R_ret pm_M62 (r := some (.null)) rfl rfl ?_
    show pm_R _ 120 5 [.ref 16, .int x1, .int x2, .int x3, .int x4, .int x5, pm_no, pm_no, pm_no, pm_no, pm_no, pm_no, pm_no, pm_no] [.null] _ _
    refine pm_R_lo pm_M120 (pc' := 7) (ls' := [.ref 16, .int x1, .int x2, .int x3, .int x4, .int x5, .null, pm_no, pm_no, pm_no, pm_no, pm_no, pm_no, pm_no]) (st' := []) rfl rfl rfl ?_
    refine pm_R_lo pm_M120 (pc' := 8) rfl rfl rfl ?_
    refine pm_R_lo pm_M120 (pc' := 9) rfl rfl rfl ?_
    refine pm_R_cv pm_M120 (pc' := 12) (a := 16) (ra := [.int x2]) (rest := []) (ls' := [.ref 16, .int x2]) rfl rfl (Or.inl rfl) pm_M66 (hh 16 (Nat.le_of_ble_eq_true rfl)) rfl (Nat.le_of_ble_eq_true rfl) (Nat.le_of_ble_eq_true rfl) rfl rfl (Nat.le_of_ble_eq_true rfl) rfl rfl ?_
    refine pm_R_lo pm_M66 (pc' := 1) rfl rfl rfl ?_
    refine pm_R_ifc pm_M66 (t := 17) (pc' := 4) rfl rfl rfl (fun c_11 => ?_) (fun c_11 => ?_)
    · refine pm_R_op pm_M66 (pc' := 18) (st' := [.null]) rfl rfl rfl ?_
      refine pm_R_br pm_M66 (pc' := 30) rfl rfl ?_
      refine pm_R_ret pm_M66 (r := some (.null)) rfl rfl ?_
      show pm_R _ 120 12 [.ref 16, .int x1, .int x2, .int x3, .int x4, .int x5, .null, pm_no, pm_no, pm_no, pm_no, pm_no, pm_no, pm_no] [.null] _ _
      refine pm_R_lo pm_M120 (pc' := 14) (ls' := [.ref 16, .int x1, .int x2, .int x3, .int x4, .int x5, .null, .null, pm_no, pm_no, pm_no, pm_no, pm_no, pm_no]) (st' := []) rfl rfl rfl ?_
      refine pm_R_lo pm_M120 (pc' := 16) rfl rfl rfl ?_
      refine pm_R_br pm_M120 (pc' := 41) rfl rfl ?_
      refine pm_R_op pm_M120 (pc' := 42) (st' := [.int (-1)]) rfl rfl rfl ?_
      refine pm_R_ret pm_M120 (r := some (.int (-1))) rfl rfl ?_
      show pm_R _ 0 1727 [.ref 0, .ref 16, .ref 41, .int 0] [.int (-1)] _ _
      refine pm_R_lo pm_M0 (pc' := 1728) (pm_q0_21 (Nat.le_of_ble_eq_true rfl)) rfl rfl ?_
      refine pm_R_lo pm_M0 (pc' := 1729) (pm_q0_21 (Nat.le_of_ble_eq_true rfl)) rfl rfl ?_
      refine pm_R_lo pm_M0 (pc' := 1730) (pm_q0_21 (Nat.le_of_ble_eq_true rfl)) rfl rfl ?_
      refine pm_R_op pm_M0 (pc' := 1731) (st' := [.int 1, .int 0, .ref 0, .ref 41, .int (-1)]) (pm_q0_21 (Nat.le_of_ble_eq_true rfl)) rfl rfl ?_
      refine pm_R_op pm_M0 (pc' := 1732) (st' := [.int 1, .ref 0, .ref 41, .int (-1)]) (pm_q0_21 (Nat.le_of_ble_eq_true rfl)) rfl rfl ?_
      refine pm_R_iald pm_M0 (pc' := 1733) (v := x1) (pm_q0_22 (Nat.le_of_ble_eq_true rfl)) (hh 0 (Nat.le_of_ble_eq_true rfl)) (Nat.le_of_ble_eq_true rfl) rfl hx1 rfl ?_
      refine pm_R_lo pm_M0 (pc' := 1734) (pm_q0_22 (Nat.le_of_ble_eq_true rfl)) rfl rfl ?_
      refine pm_R_lo pm_M0 (pc' := 1735) (pm_q0_22 (Nat.le_of_ble_eq_true rfl)) rfl rfl ?_
      refine pm_R_op pm_M0 (pc' := 1736) (st' := [.int 2, .int 0, .ref 0, .int x1, .ref 41, .int (-1)]) (pm_q0_22 (Nat.le_of_ble_eq_true rfl)) rfl rfl ?_
      refine pm_R_op pm_M0 (pc' := 1737) (st' := [.int 2, .ref 0, .int x1, .ref 41, .int (-1)]) (pm_q0_22 (Nat.le_of_ble_eq_true rfl)) rfl rfl ?_
      refine pm_R_iald pm_M0 (pc' := 1738) (v := x2) (pm_q0_22 (Nat.le_of_ble_eq_true rfl)) (hh 0 (Nat.le_of_ble_eq_true rfl)) (Nat.le_of_ble_eq_true rfl) rfl hx2 rfl ?_
      refine pm_R_lo pm_M0 (pc' := 1739) (pm_q0_22 (Nat.le_of_ble_eq_true rfl)) rfl rfl ?_
      refine pm_R_lo pm_M0 (pc' := 1740) (pm_q0_22 (Nat.le_of_ble_eq_true rfl)) rfl rfl ?_
      refine pm_R_op pm_M0 (pc' := 1741) (st' := [.int 3, .int 0, .ref 0, .int x2, .int x1, .ref 41, .int (-1)]) (pm_q0_22 (Nat.le_of_ble_eq_true rfl)) rfl rfl ?_
      refine pm_R_op pm_M0 (pc' := 1742) (st' := [.int 3, .ref 0, .int x2, .int x1, .ref 41, .int (-1)]) (pm_q0_22 (Nat.le_of_ble_eq_true rfl)) rfl rfl ?_
      refine pm_R_iald pm_M0 (pc' := 1743) (v := x3) (pm_q0_22 (Nat.le_of_ble_eq_true rfl)) (hh 0 (Nat.le_of_ble_eq_true rfl)) (Nat.le_of_ble_eq_true rfl) rfl hx3 rfl ?_
      refine pm_R_lo pm_M0 (pc' := 1744) (pm_q0_22 (Nat.le_of_ble_eq_true rfl)) rfl rfl ?_
      refine pm_R_lo pm_M0 (pc' := 1745) (pm_q0_22 (Nat.le_of_ble_eq_true rfl)) rfl rfl ?_
      refine pm_R_op pm_M0 (pc' := 1746) (st' := [.int 4, .int 0, .ref 0, .int x3, .int x2, .int x1, .ref 41, .int (-1)]) (pm_q0_22 (Nat.le_of_ble_eq_true rfl)) rfl rfl ?_
      refine pm_R_op pm_M0 (pc' := 1747) (st' := [.int 4, .ref 0, .int x3, .int x2, .int x1, .ref 41, .int (-1)]) (pm_q0_22 (Nat.le_of_ble_eq_true rfl)) rfl rfl ?_
      refine pm_R_iald pm_M0 (pc' := 1748) (v := x4) (pm_q0_22 (Nat.le_of_ble_eq_true rfl)) (hh 0 (Nat.le_of_ble_eq_true rfl)) (Nat.le_of_ble_eq_true rfl) rfl hx4 rfl ?_
      refine pm_R_lo pm_M0 (pc' := 1749) (pm_q0_22 (Nat.le_of_ble_eq_true rfl)) rfl rfl ?_
      refine pm_R_lo pm_M0 (pc' := 1750) (pm_q0_22 (Nat.le_of_ble_eq_true rfl)) rfl rfl ?_
      refine pm_R_op pm_M0 (pc' := 1751) (st' := [.int 5, .int 0, .ref 0, .int x4, .int x3, .int x2, .int x1, .ref 41, .int (-1)]) (pm_q0_22 (Nat.le_of_ble_eq_true rfl)) rfl rfl ?_
      refine pm_R_op pm_M0 (pc' := 1752) (st' := [.int 5, .ref 0, .int x4, .int x3, .int x2, .int x1, .ref 41, .int (-1)]) (pm_q0_22 (Nat.le_of_ble_eq_true rfl)) rfl rfl ?_
      refine pm_R_iald pm_M0 (pc' := 1753) (v := x5) (pm_q0_22 (Nat.le_of_ble_eq_true rfl)) (hh 0 (Nat.le_of_ble_eq_true rfl)) (Nat.le_of_ble_eq_true rfl) rfl hx5 rfl ?_
      refine pm_R_cv pm_M0 (pc' := 1756) (a := 41) (ra := [.int x5, .int x4, .int x3, .int x2, .int x1]) (rest := [.int (-1)]) (ls' := [.ref 41, .int x1, .int x2, .int x3, .int x4, .int x5, pm_no, pm_no]) (pm_q0_22 (Nat.le_of_ble_eq_true rfl)) rfl (Or.inl rfl) pm_M284 (hh 41 (Nat.le_of_ble_eq_true rfl)) rfl (Nat.le_of_ble_eq_true rfl) (Nat.le_of_ble_eq_true rfl) rfl rfl (Nat.le_of_ble_eq_true rfl) rfl rfl ?_
      refine pm_R_lo pm_M284 (pc' := 1) rfl rfl rfl ?_
      refine pm_R_op pm_M284 (pc' := 2) (st' := [.int 0, .ref 41]) rfl rfl rfl ?_
      refine pm_R_put pm_M284 (pc' := 5) (fs' := [.int 0, .ref 42, .ref 43, .ref 44, .ref 45, .ref 46, .ref 47, .ref 48, .ref 49, .ref 50, .int 0, .int 0, .int 0, .int 0, .int 0, .long 0, .int 0, .int 0, .int 0, .ref 51, .ref 52, .int 0, .int 0, .int 0, .int 0, .ref 53, .int 0, .int 0, .ref 54, .ref 55, .ref 56, .int 0, .ref 57, .ref 58, .ref 59, .ref 60, .ref 61, .ref 62, .ref 63, .ref 64, .ref 65, .ref 66, .int 0, .int 0, .int 0, .ref 67, .ref 68, .int 0, .ref 69, .int 0, .int 0, .ref 70, .ref 71]) rfl rfl rfl (hh 41 (Nat.le_of_ble_eq_true rfl)) (Nat.le_of_ble_eq_true rfl) (Nat.le_of_ble_eq_true rfl) (Nat.le_of_ble_eq_true rfl) rfl (Or.inl rfl) rfl rfl ?_
      refine pm_R_lo pm_M284 (pc' := 6) rfl rfl rfl ?_
      refine pm_R_op pm_M284 (pc' := 7) (st' := [.int 0, .int x3]) rfl rfl rfl ?_
      refine pm_R_op pm_M284 (pc' := 9) (st' := [.int 9, .int 0, .int x3]) rfl rfl rfl ?_
      refine pm_R_cs pm_M284 (pc' := 12) (ra := [.int 9, .int 0, .int x3]) (rest := []) (ls' := [.int x3, .int 0, .int 9]) rfl rfl (Or.inl rfl) pm_M174 rfl rfl (Nat.le_of_ble_eq_true rfl) rfl rfl ?_
      refine pm_R_lo pm_M174 (pc' := 1) rfl rfl rfl ?_
      refine pm_R_lo pm_M174 (pc' := 2) rfl rfl rfl ?_
      refine pm_R_icmp pm_M174 (t := 14) (pc' := 5) rfl rfl rfl (fun c_12 => ?_) (fun c_12 => ?_)
      · refine pm_R_op pm_M174 (pc' := 15) (st' := [.int 0]) rfl rfl rfl ?_
        refine pm_R_ret pm_M174 (r := some (.int 0)) rfl rfl ?_
        show pm_R _ 284 12 [.ref 41, .int x1, .int x2, .int x3, .int x4, .int x5, pm_no, pm_no] [.int 0] _ _
        refine pm_R_br pm_M284 (pc' := 39) (st' := []) rfl rfl ?_
        refine pm_R_op pm_M284 (pc' := 40) (st' := [.int (-1)]) rfl rfl rfl ?_
        refine pm_R_ret pm_M284 (r := some (.int (-1))) rfl rfl ?_
        show pm_R _ 0 1756 [.ref 0, .ref 16, .ref 41, .int 0] [.int (-1), .int (-1)] _ _
        refine pm_R_br pm_M0 (pc' := 2121) (st' := []) (pm_q0_22 (Nat.le_of_ble_eq_true rfl)) rfl ?_
        exact p1_tail (hh 0 (Nat.le_of_ble_eq_true rfl)) (Nat.le_of_ble_eq_true rfl) (Nat.le_of_ble_eq_true rfl) (Nat.le_of_ble_eq_true rfl)
      · refine pm_R_lo pm_M174 (pc' := 6) rfl rfl rfl ?_
        refine pm_R_lo pm_M174 (pc' := 7) rfl rfl rfl ?_
        refine pm_R_icmp pm_M174 (t := 14) (pc' := 10) rfl rfl rfl (fun c_13 => ?_) (fun c_13 => ?_)
        · refine pm_R_op pm_M174 (pc' := 15) (st' := [.int 0]) rfl rfl rfl ?_
          refine pm_R_ret pm_M174 (r := some (.int 0)) rfl rfl ?_
          show pm_R _ 284 12 [.ref 41, .int x1, .int x2, .int x3, .int x4, .int x5, pm_no, pm_no] [.int 0] _ _
          refine pm_R_br pm_M284 (pc' := 39) (st' := []) rfl rfl ?_
          refine pm_R_op pm_M284 (pc' := 40) (st' := [.int (-1)]) rfl rfl rfl ?_
          refine pm_R_ret pm_M284 (r := some (.int (-1))) rfl rfl ?_
          show pm_R _ 0 1756 [.ref 0, .ref 16, .ref 41, .int 0] [.int (-1), .int (-1)] _ _
          refine pm_R_br pm_M0 (pc' := 2121) (st' := []) (pm_q0_22 (Nat.le_of_ble_eq_true rfl)) rfl ?_
          exact p1_tail (hh 0 (Nat.le_of_ble_eq_true rfl)) (Nat.le_of_ble_eq_true rfl) (Nat.le_of_ble_eq_true rfl) (Nat.le_of_ble_eq_true rfl)
        · refine pm_R_op pm_M174 (pc' := 11) (st' := [.int 1]) rfl rfl rfl ?_
          refine pm_R_br pm_M174 (pc' := 15) rfl rfl ?_
          refine pm_R_ret pm_M174 (r := some (.int 1)) rfl rfl ?_
          show pm_R _ 284 12 [.ref 41, .int x1, .int x2, .int x3, .int x4, .int x5, pm_no, pm_no] [.int 1] _ _
          refine pm_R_br pm_M284 (pc' := 15) (st' := []) rfl rfl ?_
          refine pm_R_lo pm_M284 (pc' := 16) rfl rfl rfl ?_
          refine pm_R_lo pm_M284 (pc' := 17) rfl rfl rfl ?_
          refine pm_R_lo pm_M284 (pc' := 18) rfl rfl rfl ?_
          refine pm_R_cv pm_M284 (pc' := 21) (a := 41) (ra := [.int x2, .int x1]) (rest := []) (ls' := [.ref 41, .int x1, .int x2]) rfl rfl (Or.inl rfl) pm_M200 rfl rfl (Nat.le_of_ble_eq_true rfl) (Nat.le_of_ble_eq_true rfl) rfl rfl (Nat.le_of_ble_eq_true rfl) rfl rfl ?_
          refine pm_R_lo pm_M200 (pc' := 1) rfl rfl rfl ?_
          refine pm_R_op pm_M200 (pc' := 2) (st' := [.int 0, .ref 41]) rfl rfl rfl ?_
          refine pm_R_lo pm_M200 (pc' := 3) rfl rfl rfl ?_
          refine pm_R_cv pm_M200 (pc' := 6) (a := 41) (ra := [.int x1, .int 0]) (rest := []) (ls' := [.ref 41, .int 0, .int x1]) rfl rfl (Or.inl rfl) pm_M177 rfl rfl (Nat.le_of_ble_eq_true rfl) (Nat.le_of_ble_eq_true rfl) rfl rfl (Nat.le_of_ble_eq_true rfl) rfl rfl ?_
          refine pm_R_lo pm_M177 (pc' := 1) rfl rfl rfl ?_
          refine pm_R_op pm_M177 (pc' := 2) (st' := [.int 0, .int x1]) rfl rfl rfl ?_
          refine pm_R_lo pm_M177 (pc' := 3) rfl rfl rfl ?_
          refine pm_R_get pm_M177 (pc' := 6) (v := .ref 46) rfl rfl rfl (Nat.le_of_ble_eq_true rfl) (Nat.le_of_ble_eq_true rfl) rfl rfl ?_
          refine pm_R_lo pm_M177 (pc' := 7) rfl rfl rfl ?_
          refine pm_R_iald pm_M177 (pc' := 8) (v := 0) rfl (hh 46 (Nat.le_of_ble_eq_true rfl)) (Nat.le_of_ble_eq_true rfl) rfl rfl rfl ?_
          refine pm_R_op pm_M177 (pc' := 9) (st' := [.int 1, .int 0, .int 0, .int x1]) rfl rfl rfl ?_
          refine pm_R_op pm_M177 (pc' := 10) (st' := [.int (-1), .int 0, .int x1]) rfl rfl rfl ?_
          refine pm_R_cs pm_M177 (pc' := 13) (ra := [.int (-1), .int 0, .int x1]) (rest := []) (ls' := [.int x1, .int 0, .int (-1)]) rfl rfl (Or.inl rfl) pm_M174 rfl rfl (Nat.le_of_ble_eq_true rfl) rfl rfl ?_
          refine pm_R_lo pm_M174 (pc' := 1) rfl rfl rfl ?_
          refine pm_R_lo pm_M174 (pc' := 2) rfl rfl rfl ?_
          refine pm_R_icmp pm_M174 (t := 14) (pc' := 5) rfl rfl rfl (fun c_14 => by exact absurd c_14 c_1) (fun c_14 => ?_)
          refine pm_R_lo pm_M174 (pc' := 6) rfl rfl rfl ?_
          refine pm_R_lo pm_M174 (pc' := 7) rfl rfl rfl ?_
          refine pm_R_icmp pm_M174 (t := 14) (pc' := 10) rfl rfl rfl (fun c_15 => ?_) (fun c_15 => by have z0 : ((-1) : Int32).toInt = -1 := (by decide); have z1 : ((0) : Int32).toInt = 0 := (by decide); have q0 := (Int32.le_iff_toInt_le.mp (Int32.not_lt.mp c_1)); have q1 := (Int32.le_iff_toInt_le.mp (Int32.not_lt.mp c_15)); exfalso; omega)
          refine pm_R_op pm_M174 (pc' := 15) (st' := [.int 0]) rfl rfl rfl ?_
          refine pm_R_ret pm_M174 (r := some (.int 0)) rfl rfl ?_
          show pm_R _ 177 13 [.ref 41, .int 0, .int x1] [.int 0] _ _
          refine pm_R_ret pm_M177 (r := some (.int 0)) rfl rfl ?_
          show pm_R _ 200 6 [.ref 41, .int x1, .int x2] [.int 0] _ _
          refine pm_R_br pm_M200 (pc' := 18) (st' := []) rfl rfl ?_
          refine pm_R_op pm_M200 (pc' := 19) (st' := [.int 0]) rfl rfl rfl ?_
          refine pm_R_ret pm_M200 (r := some (.int 0)) rfl rfl ?_
          show pm_R _ 284 21 [.ref 41, .int x1, .int x2, .int x3, .int x4, .int x5, pm_no, pm_no] [.int 0] _ _
          refine pm_R_br pm_M284 (pc' := 39) (st' := []) rfl rfl ?_
          refine pm_R_op pm_M284 (pc' := 40) (st' := [.int (-1)]) rfl rfl rfl ?_
          refine pm_R_ret pm_M284 (r := some (.int (-1))) rfl rfl ?_
          show pm_R _ 0 1756 [.ref 0, .ref 16, .ref 41, .int 0] [.int (-1), .int (-1)] _ _
          refine pm_R_br pm_M0 (pc' := 2121) (st' := []) (pm_q0_22 (Nat.le_of_ble_eq_true rfl)) rfl ?_
          exact p1_tail (hh 0 (Nat.le_of_ble_eq_true rfl)) (Nat.le_of_ble_eq_true rfl) (Nat.le_of_ble_eq_true rfl) (Nat.le_of_ble_eq_true rfl)
    · refine pm_R_lo pm_M66 (pc' := 5) rfl rfl rfl ?_
      refine pm_R_lo pm_M66 (pc' := 6) rfl rfl rfl ?_
      refine pm_R_get pm_M66 (pc' := 9) (v := .ref 17) rfl rfl (hh 16 (Nat.le_of_ble_eq_true rfl)) (Nat.le_of_ble_eq_true rfl) (Nat.le_of_ble_eq_true rfl) rfl rfl ?_
      refine pm_R_get pm_M66 (pc' := 12) (v := .ref 23) rfl rfl (hh 17 (Nat.le_of_ble_eq_true rfl)) (Nat.le_of_ble_eq_true rfl) (Nat.le_of_ble_eq_true rfl) rfl rfl ?_
      refine pm_R_op pm_M66 (pc' := 13) (st' := [.int 1, .ref 23, .int x2]) rfl rfl rfl ?_
      refine pm_R_iald pm_M66 (pc' := 14) (v := 0) rfl (hh 23 (Nat.le_of_ble_eq_true rfl)) (Nat.le_of_ble_eq_true rfl) rfl rfl rfl ?_
      refine pm_R_icmp pm_M66 (t := 21) (pc' := 17) rfl rfl rfl (fun c_16 => by exact absurd c_16 c_11) (fun c_16 => ?_)
      refine pm_R_op pm_M66 (pc' := 18) (st' := [.null]) rfl rfl rfl ?_
      refine pm_R_br pm_M66 (pc' := 30) rfl rfl ?_
      refine pm_R_ret pm_M66 (r := some (.null)) rfl rfl ?_
      show pm_R _ 120 12 [.ref 16, .int x1, .int x2, .int x3, .int x4, .int x5, .null, pm_no, pm_no, pm_no, pm_no, pm_no, pm_no, pm_no] [.null] _ _
      refine pm_R_lo pm_M120 (pc' := 14) (ls' := [.ref 16, .int x1, .int x2, .int x3, .int x4, .int x5, .null, .null, pm_no, pm_no, pm_no, pm_no, pm_no, pm_no]) (st' := []) rfl rfl rfl ?_
      refine pm_R_lo pm_M120 (pc' := 16) rfl rfl rfl ?_
      refine pm_R_br pm_M120 (pc' := 41) rfl rfl ?_
      refine pm_R_op pm_M120 (pc' := 42) (st' := [.int (-1)]) rfl rfl rfl ?_
      refine pm_R_ret pm_M120 (r := some (.int (-1))) rfl rfl ?_
      show pm_R _ 0 1727 [.ref 0, .ref 16, .ref 41, .int 0] [.int (-1)] _ _
      refine pm_R_lo pm_M0 (pc' := 1728) (pm_q0_21 (Nat.le_of_ble_eq_true rfl)) rfl rfl ?_
      refine pm_R_lo pm_M0 (pc' := 1729) (pm_q0_21 (Nat.le_of_ble_eq_true rfl)) rfl rfl ?_
      refine pm_R_lo pm_M0 (pc' := 1730) (pm_q0_21 (Nat.le_of_ble_eq_true rfl)) rfl rfl ?_
      refine pm_R_op pm_M0 (pc' := 1731) (st' := [.int 1, .int 0, .ref 0, .ref 41, .int (-1)]) (pm_q0_21 (Nat.le_of_ble_eq_true rfl)) rfl rfl ?_
      refine pm_R_op pm_M0 (pc' := 1732) (st' := [.int 1, .ref 0, .ref 41, .int (-1)]) (pm_q0_21 (Nat.le_of_ble_eq_true rfl)) rfl rfl ?_
      refine pm_R_iald pm_M0 (pc' := 1733) (v := x1) (pm_q0_22 (Nat.le_of_ble_eq_true rfl)) (hh 0 (Nat.le_of_ble_eq_true rfl)) (Nat.le_of_ble_eq_true rfl) rfl hx1 rfl ?_
      refine pm_R_lo pm_M0 (pc' := 1734) (pm_q0_22 (Nat.le_of_ble_eq_true rfl)) rfl rfl ?_
      refine pm_R_lo pm_M0 (pc' := 1735) (pm_q0_22 (Nat.le_of_ble_eq_true rfl)) rfl rfl ?_
      refine pm_R_op pm_M0 (pc' := 1736) (st' := [.int 2, .int 0, .ref 0, .int x1, .ref 41, .int (-1)]) (pm_q0_22 (Nat.le_of_ble_eq_true rfl)) rfl rfl ?_
      refine pm_R_op pm_M0 (pc' := 1737) (st' := [.int 2, .ref 0, .int x1, .ref 41, .int (-1)]) (pm_q0_22 (Nat.le_of_ble_eq_true rfl)) rfl rfl ?_
      refine pm_R_iald pm_M0 (pc' := 1738) (v := x2) (pm_q0_22 (Nat.le_of_ble_eq_true rfl)) (hh 0 (Nat.le_of_ble_eq_true rfl)) (Nat.le_of_ble_eq_true rfl) rfl hx2 rfl ?_
      refine pm_R_lo pm_M0 (pc' := 1739) (pm_q0_22 (Nat.le_of_ble_eq_true rfl)) rfl rfl ?_
      refine pm_R_lo pm_M0 (pc' := 1740) (pm_q0_22 (Nat.le_of_ble_eq_true rfl)) rfl rfl ?_
      refine pm_R_op pm_M0 (pc' := 1741) (st' := [.int 3, .int 0, .ref 0, .int x2, .int x1, .ref 41, .int (-1)]) (pm_q0_22 (Nat.le_of_ble_eq_true rfl)) rfl rfl ?_
      refine pm_R_op pm_M0 (pc' := 1742) (st' := [.int 3, .ref 0, .int x2, .int x1, .ref 41, .int (-1)]) (pm_q0_22 (Nat.le_of_ble_eq_true rfl)) rfl rfl ?_
      refine pm_R_iald pm_M0 (pc' := 1743) (v := x3) (pm_q0_22 (Nat.le_of_ble_eq_true rfl)) (hh 0 (Nat.le_of_ble_eq_true rfl)) (Nat.le_of_ble_eq_true rfl) rfl hx3 rfl ?_
      refine pm_R_lo pm_M0 (pc' := 1744) (pm_q0_22 (Nat.le_of_ble_eq_true rfl)) rfl rfl ?_
      refine pm_R_lo pm_M0 (pc' := 1745) (pm_q0_22 (Nat.le_of_ble_eq_true rfl)) rfl rfl ?_
      refine pm_R_op pm_M0 (pc' := 1746) (st' := [.int 4, .int 0, .ref 0, .int x3, .int x2, .int x1, .ref 41, .int (-1)]) (pm_q0_22 (Nat.le_of_ble_eq_true rfl)) rfl rfl ?_
      refine pm_R_op pm_M0 (pc' := 1747) (st' := [.int 4, .ref 0, .int x3, .int x2, .int x1, .ref 41, .int (-1)]) (pm_q0_22 (Nat.le_of_ble_eq_true rfl)) rfl rfl ?_
      refine pm_R_iald pm_M0 (pc' := 1748) (v := x4) (pm_q0_22 (Nat.le_of_ble_eq_true rfl)) (hh 0 (Nat.le_of_ble_eq_true rfl)) (Nat.le_of_ble_eq_true rfl) rfl hx4 rfl ?_
      refine pm_R_lo pm_M0 (pc' := 1749) (pm_q0_22 (Nat.le_of_ble_eq_true rfl)) rfl rfl ?_
      refine pm_R_lo pm_M0 (pc' := 1750) (pm_q0_22 (Nat.le_of_ble_eq_true rfl)) rfl rfl ?_
      refine pm_R_op pm_M0 (pc' := 1751) (st' := [.int 5, .int 0, .ref 0, .int x4, .int x3, .int x2, .int x1, .ref 41, .int (-1)]) (pm_q0_22 (Nat.le_of_ble_eq_true rfl)) rfl rfl ?_
      refine pm_R_op pm_M0 (pc' := 1752) (st' := [.int 5, .ref 0, .int x4, .int x3, .int x2, .int x1, .ref 41, .int (-1)]) (pm_q0_22 (Nat.le_of_ble_eq_true rfl)) rfl rfl ?_
      refine pm_R_iald pm_M0 (pc' := 1753) (v := x5) (pm_q0_22 (Nat.le_of_ble_eq_true rfl)) (hh 0 (Nat.le_of_ble_eq_true rfl)) (Nat.le_of_ble_eq_true rfl) rfl hx5 rfl ?_
      refine pm_R_cv pm_M0 (pc' := 1756) (a := 41) (ra := [.int x5, .int x4, .int x3, .int x2, .int x1]) (rest := [.int (-1)]) (ls' := [.ref 41, .int x1, .int x2, .int x3, .int x4, .int x5, pm_no, pm_no]) (pm_q0_22 (Nat.le_of_ble_eq_true rfl)) rfl (Or.inl rfl) pm_M284 (hh 41 (Nat.le_of_ble_eq_true rfl)) rfl (Nat.le_of_ble_eq_true rfl) (Nat.le_of_ble_eq_true rfl) rfl rfl (Nat.le_of_ble_eq_true rfl) rfl rfl ?_
      refine pm_R_lo pm_M284 (pc' := 1) rfl rfl rfl ?_
      refine pm_R_op pm_M284 (pc' := 2) (st' := [.int 0, .ref 41]) rfl rfl rfl ?_
      refine pm_R_put pm_M284 (pc' := 5) (fs' := [.int 0, .ref 42, .ref 43, .ref 44, .ref 45, .ref 46, .ref 47, .ref 48, .ref 49, .ref 50, .int 0, .int 0, .int 0, .int 0, .int 0, .long 0, .int 0, .int 0, .int 0, .ref 51, .ref 52, .int 0, .int 0, .int 0, .int 0, .ref 53, .int 0, .int 0, .ref 54, .ref 55, .ref 56, .int 0, .ref 57, .ref 58, .ref 59, .ref 60, .ref 61, .ref 62, .ref 63, .ref 64, .ref 65, .ref 66, .int 0, .int 0, .int 0, .ref 67, .ref 68, .int 0, .ref 69, .int 0, .int 0, .ref 70, .ref 71]) rfl rfl rfl (hh 41 (Nat.le_of_ble_eq_true rfl)) (Nat.le_of_ble_eq_true rfl) (Nat.le_of_ble_eq_true rfl) (Nat.le_of_ble_eq_true rfl) rfl (Or.inl rfl) rfl rfl ?_
      refine pm_R_lo pm_M284 (pc' := 6) rfl rfl rfl ?_
      refine pm_R_op pm_M284 (pc' := 7) (st' := [.int 0, .int x3]) rfl rfl rfl ?_
      refine pm_R_op pm_M284 (pc' := 9) (st' := [.int 9, .int 0, .int x3]) rfl rfl rfl ?_
      refine pm_R_cs pm_M284 (pc' := 12) (ra := [.int 9, .int 0, .int x3]) (rest := []) (ls' := [.int x3, .int 0, .int 9]) rfl rfl (Or.inl rfl) pm_M174 rfl rfl (Nat.le_of_ble_eq_true rfl) rfl rfl ?_
      refine pm_R_lo pm_M174 (pc' := 1) rfl rfl rfl ?_
      refine pm_R_lo pm_M174 (pc' := 2) rfl rfl rfl ?_
      refine pm_R_icmp pm_M174 (t := 14) (pc' := 5) rfl rfl rfl (fun c_17 => ?_) (fun c_17 => ?_)
      · refine pm_R_op pm_M174 (pc' := 15) (st' := [.int 0]) rfl rfl rfl ?_
        refine pm_R_ret pm_M174 (r := some (.int 0)) rfl rfl ?_
        show pm_R _ 284 12 [.ref 41, .int x1, .int x2, .int x3, .int x4, .int x5, pm_no, pm_no] [.int 0] _ _
        refine pm_R_br pm_M284 (pc' := 39) (st' := []) rfl rfl ?_
        refine pm_R_op pm_M284 (pc' := 40) (st' := [.int (-1)]) rfl rfl rfl ?_
        refine pm_R_ret pm_M284 (r := some (.int (-1))) rfl rfl ?_
        show pm_R _ 0 1756 [.ref 0, .ref 16, .ref 41, .int 0] [.int (-1), .int (-1)] _ _
        refine pm_R_br pm_M0 (pc' := 2121) (st' := []) (pm_q0_22 (Nat.le_of_ble_eq_true rfl)) rfl ?_
        exact p1_tail (hh 0 (Nat.le_of_ble_eq_true rfl)) (Nat.le_of_ble_eq_true rfl) (Nat.le_of_ble_eq_true rfl) (Nat.le_of_ble_eq_true rfl)
      · refine pm_R_lo pm_M174 (pc' := 6) rfl rfl rfl ?_
        refine pm_R_lo pm_M174 (pc' := 7) rfl rfl rfl ?_
        refine pm_R_icmp pm_M174 (t := 14) (pc' := 10) rfl rfl rfl (fun c_18 => ?_) (fun c_18 => ?_)
        · refine pm_R_op pm_M174 (pc' := 15) (st' := [.int 0]) rfl rfl rfl ?_
          refine pm_R_ret pm_M174 (r := some (.int 0)) rfl rfl ?_
          show pm_R _ 284 12 [.ref 41, .int x1, .int x2, .int x3, .int x4, .int x5, pm_no, pm_no] [.int 0] _ _
          refine pm_R_br pm_M284 (pc' := 39) (st' := []) rfl rfl ?_
          refine pm_R_op pm_M284 (pc' := 40) (st' := [.int (-1)]) rfl rfl rfl ?_
          refine pm_R_ret pm_M284 (r := some (.int (-1))) rfl rfl ?_
          show pm_R _ 0 1756 [.ref 0, .ref 16, .ref 41, .int 0] [.int (-1), .int (-1)] _ _
          refine pm_R_br pm_M0 (pc' := 2121) (st' := []) (pm_q0_22 (Nat.le_of_ble_eq_true rfl)) rfl ?_
          exact p1_tail (hh 0 (Nat.le_of_ble_eq_true rfl)) (Nat.le_of_ble_eq_true rfl) (Nat.le_of_ble_eq_true rfl) (Nat.le_of_ble_eq_true rfl)
        · refine pm_R_op pm_M174 (pc' := 11) (st' := [.int 1]) rfl rfl rfl ?_
          refine pm_R_br pm_M174 (pc' := 15) rfl rfl ?_
          refine pm_R_ret pm_M174 (r := some (.int 1)) rfl rfl ?_
          show pm_R _ 284 12 [.ref 41, .int x1, .int x2, .int x3, .int x4, .int x5, pm_no, pm_no] [.int 1] _ _
          refine pm_R_br pm_M284 (pc' := 15) (st' := []) rfl rfl ?_
          refine pm_R_lo pm_M284 (pc' := 16) rfl rfl rfl ?_
          refine pm_R_lo pm_M284 (pc' := 17) rfl rfl rfl ?_
          refine pm_R_lo pm_M284 (pc' := 18) rfl rfl rfl ?_
          refine pm_R_cv pm_M284 (pc' := 21) (a := 41) (ra := [.int x2, .int x1]) (rest := []) (ls' := [.ref 41, .int x1, .int x2]) rfl rfl (Or.inl rfl) pm_M200 rfl rfl (Nat.le_of_ble_eq_true rfl) (Nat.le_of_ble_eq_true rfl) rfl rfl (Nat.le_of_ble_eq_true rfl) rfl rfl ?_
          refine pm_R_lo pm_M200 (pc' := 1) rfl rfl rfl ?_
          refine pm_R_op pm_M200 (pc' := 2) (st' := [.int 0, .ref 41]) rfl rfl rfl ?_
          refine pm_R_lo pm_M200 (pc' := 3) rfl rfl rfl ?_
          refine pm_R_cv pm_M200 (pc' := 6) (a := 41) (ra := [.int x1, .int 0]) (rest := []) (ls' := [.ref 41, .int 0, .int x1]) rfl rfl (Or.inl rfl) pm_M177 rfl rfl (Nat.le_of_ble_eq_true rfl) (Nat.le_of_ble_eq_true rfl) rfl rfl (Nat.le_of_ble_eq_true rfl) rfl rfl ?_
          refine pm_R_lo pm_M177 (pc' := 1) rfl rfl rfl ?_
          refine pm_R_op pm_M177 (pc' := 2) (st' := [.int 0, .int x1]) rfl rfl rfl ?_
          refine pm_R_lo pm_M177 (pc' := 3) rfl rfl rfl ?_
          refine pm_R_get pm_M177 (pc' := 6) (v := .ref 46) rfl rfl rfl (Nat.le_of_ble_eq_true rfl) (Nat.le_of_ble_eq_true rfl) rfl rfl ?_
          refine pm_R_lo pm_M177 (pc' := 7) rfl rfl rfl ?_
          refine pm_R_iald pm_M177 (pc' := 8) (v := 0) rfl (hh 46 (Nat.le_of_ble_eq_true rfl)) (Nat.le_of_ble_eq_true rfl) rfl rfl rfl ?_
          refine pm_R_op pm_M177 (pc' := 9) (st' := [.int 1, .int 0, .int 0, .int x1]) rfl rfl rfl ?_
          refine pm_R_op pm_M177 (pc' := 10) (st' := [.int (-1), .int 0, .int x1]) rfl rfl rfl ?_
          refine pm_R_cs pm_M177 (pc' := 13) (ra := [.int (-1), .int 0, .int x1]) (rest := []) (ls' := [.int x1, .int 0, .int (-1)]) rfl rfl (Or.inl rfl) pm_M174 rfl rfl (Nat.le_of_ble_eq_true rfl) rfl rfl ?_
          refine pm_R_lo pm_M174 (pc' := 1) rfl rfl rfl ?_
          refine pm_R_lo pm_M174 (pc' := 2) rfl rfl rfl ?_
          refine pm_R_icmp pm_M174 (t := 14) (pc' := 5) rfl rfl rfl (fun c_19 => by exact absurd c_19 c_1) (fun c_19 => ?_)
          refine pm_R_lo pm_M174 (pc' := 6) rfl rfl rfl ?_
          refine pm_R_lo pm_M174 (pc' := 7) rfl rfl rfl ?_
          refine pm_R_icmp pm_M174 (t := 14) (pc' := 10) rfl rfl rfl (fun c_20 => ?_) (fun c_20 => by have z0 : ((-1) : Int32).toInt = -1 := (by decide); have z1 : ((0) : Int32).toInt = 0 := (by decide); have q0 := (Int32.le_iff_toInt_le.mp (Int32.not_lt.mp c_1)); have q1 := (Int32.le_iff_toInt_le.mp (Int32.not_lt.mp c_20)); exfalso; omega)
          refine pm_R_op pm_M174 (pc' := 15) (st' := [.int 0]) rfl rfl rfl ?_
          refine pm_R_ret pm_M174 (r := some (.int 0)) rfl rfl ?_
          show pm_R _ 177 13 [.ref 41, .int 0, .int x1] [.int 0] _ _
          refine pm_R_ret pm_M177 (r := some (.int 0)) rfl rfl ?_
          show pm_R _ 200 6 [.ref 41, .int x1, .int x2] [.int 0] _ _
          refine pm_R_br pm_M200 (pc' := 18) (st' := []) rfl rfl ?_
          refine pm_R_op pm_M200 (pc' := 19) (st' := [.int 0]) rfl rfl rfl ?_
          refine pm_R_ret pm_M200 (r := some (.int 0)) rfl rfl ?_
          show pm_R _ 284 21 [.ref 41, .int x1, .int x2, .int x3, .int x4, .int x5, pm_no, pm_no] [.int 0] _ _
          refine pm_R_br pm_M284 (pc' := 39) (st' := []) rfl rfl ?_
          refine pm_R_op pm_M284 (pc' := 40) (st' := [.int (-1)]) rfl rfl rfl ?_
          refine pm_R_ret pm_M284 (r := some (.int (-1))) rfl rfl ?_
          show pm_R _ 0 1756 [.ref 0, .ref 16, .ref 41, .int 0] [.int (-1), .int (-1)] _ _
          refine pm_R_br pm_M0 (pc' := 2121) (st' := []) (pm_q0_22 (Nat.le_of_ble_eq_true rfl)) rfl ?_
          exact p1_tail (hh 0 (Nat.le_of_ble_eq_true rfl)) (Nat.le_of_ble_eq_true rfl) (Nat.le_of_ble_eq_true rfl) (Nat.le_of_ble_eq_true rfl)
set_option maxRecDepth 100000 in
set_option maxHeartbeats 40000000 in
theorem p1_c34 (xs : Nat → Int32) (f : Nat → pm_E) (hh : ∀ i, i < 72 → f i = pm_fF 7 xs i) (x0 x1 x2 x3 x4 x5 x6 : Int32) (hx0 : xs 0 = x0) (hx1 : xs 1 = x1) (hx2 : xs 2 = x2) (hx3 : xs 3 = x3) (hx4 : xs 4 = x4) (hx5 : xs 5 = x5) (hx6 : xs 6 = x6) : pm_R 100 0 1761 [.ref 0, .ref 16, .ref 41, .int 0] [] (72, 52657, f) p1_Q := by
  refine pm_R_lo pm_M0 (pc' := 1762) (pm_q0_22 (Nat.le_of_ble_eq_true rfl)) rfl rfl ?_
  refine pm_R_lo pm_M0 (pc' := 1763) (pm_q0_22 (Nat.le_of_ble_eq_true rfl)) rfl rfl ?_
  refine pm_R_lo pm_M0 (pc' := 1764) (pm_q0_22 (Nat.le_of_ble_eq_true rfl)) rfl rfl ?_
  refine pm_R_op pm_M0 (pc' := 1765) (st' := [.int 1, .int 0, .ref 0, .ref 16]) (pm_q0_22 (Nat.le_of_ble_eq_true rfl)) rfl rfl ?_
  refine pm_R_op pm_M0 (pc' := 1766) (st' := [.int 1, .ref 0, .ref 16]) (pm_q0_22 (Nat.le_of_ble_eq_true rfl)) rfl rfl ?_
  refine pm_R_iald pm_M0 (pc' := 1767) (v := x1) (pm_q0_22 (Nat.le_of_ble_eq_true rfl)) (hh 0 (Nat.le_of_ble_eq_true rfl)) (Nat.le_of_ble_eq_true rfl) rfl hx1 rfl ?_
  refine pm_R_lo pm_M0 (pc' := 1768) (pm_q0_22 (Nat.le_of_ble_eq_true rfl)) rfl rfl ?_
  refine pm_R_lo pm_M0 (pc' := 1769) (pm_q0_22 (Nat.le_of_ble_eq_true rfl)) rfl rfl ?_
  refine pm_R_op pm_M0 (pc' := 1770) (st' := [.int 2, .int 0, .ref 0, .int x1, .ref 16]) (pm_q0_22 (Nat.le_of_ble_eq_true rfl)) rfl rfl ?_
  refine pm_R_op pm_M0 (pc' := 1771) (st' := [.int 2, .ref 0, .int x1, .ref 16]) (pm_q0_22 (Nat.le_of_ble_eq_true rfl)) rfl rfl ?_
  refine pm_R_iald pm_M0 (pc' := 1772) (v := x2) (pm_q0_22 (Nat.le_of_ble_eq_true rfl)) (hh 0 (Nat.le_of_ble_eq_true rfl)) (Nat.le_of_ble_eq_true rfl) rfl hx2 rfl ?_
  refine pm_R_lo pm_M0 (pc' := 1773) (pm_q0_22 (Nat.le_of_ble_eq_true rfl)) rfl rfl ?_
  refine pm_R_lo pm_M0 (pc' := 1774) (pm_q0_22 (Nat.le_of_ble_eq_true rfl)) rfl rfl ?_
  refine pm_R_op pm_M0 (pc' := 1775) (st' := [.int 3, .int 0, .ref 0, .int x2, .int x1, .ref 16]) (pm_q0_22 (Nat.le_of_ble_eq_true rfl)) rfl rfl ?_
  refine pm_R_op pm_M0 (pc' := 1776) (st' := [.int 3, .ref 0, .int x2, .int x1, .ref 16]) (pm_q0_22 (Nat.le_of_ble_eq_true rfl)) rfl rfl ?_
  refine pm_R_iald pm_M0 (pc' := 1777) (v := x3) (pm_q0_22 (Nat.le_of_ble_eq_true rfl)) (hh 0 (Nat.le_of_ble_eq_true rfl)) (Nat.le_of_ble_eq_true rfl) rfl hx3 rfl ?_
  refine pm_R_cv pm_M0 (pc' := 1780) (a := 16) (ra := [.int x3, .int x2, .int x1]) (rest := []) (ls' := [.ref 16, .int x1, .int x2, .int x3, pm_no]) (pm_q0_22 (Nat.le_of_ble_eq_true rfl)) rfl (Or.inl rfl) pm_M137 (hh 16 (Nat.le_of_ble_eq_true rfl)) rfl (Nat.le_of_ble_eq_true rfl) (Nat.le_of_ble_eq_true rfl) rfl rfl (Nat.le_of_ble_eq_true rfl) rfl rfl ?_
  refine pm_R_lo pm_M137 (pc' := 1) rfl rfl rfl ?_
  refine pm_R_lo pm_M137 (pc' := 2) rfl rfl rfl ?_
  refine pm_R_cv pm_M137 (pc' := 5) (a := 16) (ra := [.int x1]) (rest := []) (ls' := [.ref 16, .int x1]) rfl rfl (Or.inl rfl) pm_M62 (hh 16 (Nat.le_of_ble_eq_true rfl)) rfl (Nat.le_of_ble_eq_true rfl) (Nat.le_of_ble_eq_true rfl) rfl rfl (Nat.le_of_ble_eq_true rfl) rfl rfl ?_
  refine pm_R_lo pm_M62 (pc' := 1) rfl rfl rfl ?_
  refine pm_R_ifc pm_M62 (t := 17) (pc' := 4) rfl rfl rfl (fun c_1 => ?_) (fun c_1 => ?_)
  · refine pm_R_op pm_M62 (pc' := 18) (st' := [.null]) rfl rfl rfl ?_
    refine pm_R_br pm_M62 (pc' := 30) rfl rfl ?_
    refine pm_R_ret pm_M62 (r := some (.null)) rfl rfl ?_
    show pm_R _ 137 5 [.ref 16, .int x1, .int x2, .int x3, pm_no] [.null] _ _
    refine pm_R_br pm_M137 (pc' := 27) rfl rfl ?_
    refine pm_R_ldc2 pm_M137 (pc' := 30) rfl rfl rfl ?_
    refine pm_R_ret pm_M137 (r := some (.long (-1))) rfl rfl ?_
    show pm_R _ 0 1780 [.ref 0, .ref 16, .ref 41, .int 0] [.long (-1)] _ _
    refine pm_R_lo pm_M0 (pc' := 1781) (pm_q0_22 (Nat.le_of_ble_eq_true rfl)) rfl rfl ?_
    refine pm_R_lo pm_M0 (pc' := 1782) (pm_q0_22 (Nat.le_of_ble_eq_true rfl)) rfl rfl ?_
    refine pm_R_lo pm_M0 (pc' := 1783) (pm_q0_22 (Nat.le_of_ble_eq_true rfl)) rfl rfl ?_
    refine pm_R_op pm_M0 (pc' := 1784) (st' := [.int 1, .int 0, .ref 0, .ref 41, .long (-1)]) (pm_q0_22 (Nat.le_of_ble_eq_true rfl)) rfl rfl ?_
    refine pm_R_op pm_M0 (pc' := 1785) (st' := [.int 1, .ref 0, .ref 41, .long (-1)]) (pm_q0_22 (Nat.le_of_ble_eq_true rfl)) rfl rfl ?_
    refine pm_R_iald pm_M0 (pc' := 1786) (v := x1) (pm_q0_22 (Nat.le_of_ble_eq_true rfl)) (hh 0 (Nat.le_of_ble_eq_true rfl)) (Nat.le_of_ble_eq_true rfl) rfl hx1 rfl ?_
    refine pm_R_lo pm_M0 (pc' := 1787) (pm_q0_22 (Nat.le_of_ble_eq_true rfl)) rfl rfl ?_
    refine pm_R_lo pm_M0 (pc' := 1788) (pm_q0_22 (Nat.le_of_ble_eq_true rfl)) rfl rfl ?_
    refine pm_R_op pm_M0 (pc' := 1789) (st' := [.int 2, .int 0, .ref 0, .int x1, .ref 41, .long (-1)]) (pm_q0_22 (Nat.le_of_ble_eq_true rfl)) rfl rfl ?_
    refine pm_R_op pm_M0 (pc' := 1790) (st' := [.int 2, .ref 0, .int x1, .ref 41, .long (-1)]) (pm_q0_22 (Nat.le_of_ble_eq_true rfl)) rfl rfl ?_
    refine pm_R_iald pm_M0 (pc' := 1791) (v := x2) (pm_q0_22 (Nat.le_of_ble_eq_true rfl)) (hh 0 (Nat.le_of_ble_eq_true rfl)) (Nat.le_of_ble_eq_true rfl) rfl hx2 rfl ?_
    refine pm_R_lo pm_M0 (pc' := 1792) (pm_q0_22 (Nat.le_of_ble_eq_true rfl)) rfl rfl ?_
    refine pm_R_lo pm_M0 (pc' := 1793) (pm_q0_22 (Nat.le_of_ble_eq_true rfl)) rfl rfl ?_
    refine pm_R_op pm_M0 (pc' := 1794) (st' := [.int 3, .int 0, .ref 0, .int x2, .int x1, .ref 41, .long (-1)]) (pm_q0_22 (Nat.le_of_ble_eq_true rfl)) rfl rfl ?_
    refine pm_R_op pm_M0 (pc' := 1795) (st' := [.int 3, .ref 0, .int x2, .int x1, .ref 41, .long (-1)]) (pm_q0_22 (Nat.le_of_ble_eq_true rfl)) rfl rfl ?_
    refine pm_R_iald pm_M0 (pc' := 1796) (v := x3) (pm_q0_22 (Nat.le_of_ble_eq_true rfl)) (hh 0 (Nat.le_of_ble_eq_true rfl)) (Nat.le_of_ble_eq_true rfl) rfl hx3 rfl ?_
    refine pm_R_cv pm_M0 (pc' := 1799) (a := 41) (ra := [.int x3, .int x2, .int x1]) (rest := [.long (-1)]) (ls' := [.ref 41, .int x1, .int x2, .int x3, pm_no, pm_no, pm_no, pm_no, pm_no, pm_no, pm_no, pm_no, pm_no]) (pm_q0_22 (Nat.le_of_ble_eq_true rfl)) rfl (Or.inl rfl) pm_M287 (hh 41 (Nat.le_of_ble_eq_true rfl)) rfl (Nat.le_of_ble_eq_true rfl) (Nat.le_of_ble_eq_true rfl) rfl rfl (Nat.le_of_ble_eq_true rfl) rfl rfl ?_
    refine pm_R_lo pm_M287 (pc' := 1) rfl rfl rfl ?_
    refine pm_R_op pm_M287 (pc' := 2) (st' := [.int 0, .ref 41]) rfl rfl rfl ?_
    refine pm_R_put pm_M287 (pc' := 5) (fs' := [.int 0, .ref 42, .ref 43, .ref 44, .ref 45, .ref 46, .ref 47, .ref 48, .ref 49, .ref 50, .int 0, .int 0, .int 0, .int 0, .int 0, .long 0, .int 0, .int 0, .int 0, .ref 51, .ref 52, .int 0, .int 0, .int 0, .int 0, .ref 53, .int 0, .int 0, .ref 54, .ref 55, .ref 56, .int 0, .ref 57, .ref 58, .ref 59, .ref 60, .ref 61, .ref 62, .ref 63, .ref 64, .ref 65, .ref 66, .int 0, .int 0, .int 0, .ref 67, .ref 68, .int 0, .ref 69, .int 0, .int 0, .ref 70, .ref 71]) rfl rfl rfl (hh 41 (Nat.le_of_ble_eq_true rfl)) (Nat.le_of_ble_eq_true rfl) (Nat.le_of_ble_eq_true rfl) (Nat.le_of_ble_eq_true rfl) rfl (Or.inl rfl) rfl rfl ?_
    refine pm_R_lo pm_M287 (pc' := 6) rfl rfl rfl ?_
    refine pm_R_op pm_M287 (pc' := 7) (st' := [.int 0, .ref 41]) rfl rfl rfl ?_
    refine pm_R_lo pm_M287 (pc' := 8) rfl rfl rfl ?_
    refine pm_R_cv pm_M287 (pc' := 11) (a := 41) (ra := [.int x1, .int 0]) (rest := []) (ls' := [.ref 41, .int 0, .int x1]) rfl rfl (Or.inl rfl) pm_M177 rfl rfl (Nat.le_of_ble_eq_true rfl) (Nat.le_of_ble_eq_true rfl) rfl rfl (Nat.le_of_ble_eq_true rfl) rfl rfl ?_
    refine pm_R_lo pm_M177 (pc' := 1) rfl rfl rfl ?_
    refine pm_R_op pm_M177 (pc' := 2) (st' := [.int 0, .int x1]) rfl rfl rfl ?_
    refine pm_R_lo pm_M177 (pc' := 3) rfl rfl rfl ?_
    refine pm_R_get pm_M177 (pc' := 6) (v := .ref 46) rfl rfl rfl (Nat.le_of_ble_eq_true rfl) (Nat.le_of_ble_eq_true rfl) rfl rfl ?_
    refine pm_R_lo pm_M177 (pc' := 7) rfl rfl rfl ?_
    refine pm_R_iald pm_M177 (pc' := 8) (v := 0) rfl (hh 46 (Nat.le_of_ble_eq_true rfl)) (Nat.le_of_ble_eq_true rfl) rfl rfl rfl ?_
    refine pm_R_op pm_M177 (pc' := 9) (st' := [.int 1, .int 0, .int 0, .int x1]) rfl rfl rfl ?_
    refine pm_R_op pm_M177 (pc' := 10) (st' := [.int (-1), .int 0, .int x1]) rfl rfl rfl ?_
    refine pm_R_cs pm_M177 (pc' := 13) (ra := [.int (-1), .int 0, .int x1]) (rest := []) (ls' := [.int x1, .int 0, .int (-1)]) rfl rfl (Or.inl rfl) pm_M174 rfl rfl (Nat.le_of_ble_eq_true rfl) rfl rfl ?_
    refine pm_R_lo pm_M174 (pc' := 1) rfl rfl rfl ?_
    refine pm_R_lo pm_M174 (pc' := 2) rfl rfl rfl ?_
    refine pm_R_icmp pm_M174 (t := 14) (pc' := 5) rfl rfl rfl (fun c_2 => ?_) (fun c_2 => by exact absurd c_1 c_2)
    refine pm_R_op pm_M174 (pc' := 15) (st' := [.int 0]) rfl rfl rfl ?_
    refine pm_R_ret pm_M174 (r := some (.int 0)) rfl rfl ?_
    show pm_R _ 177 13 [.ref 41, .int 0, .int x1] [.int 0] _ _
    refine pm_R_ret pm_M177 (r := some (.int 0)) rfl rfl ?_
    show pm_R _ 287 11 [.ref 41, .int x1, .int x2, .int x3, pm_no, pm_no, pm_no, pm_no, pm_no, pm_no, pm_no, pm_no, pm_no] [.int 0] _ _
    refine pm_R_br pm_M287 (pc' := 32) (st' := []) rfl rfl ?_
    refine pm_R_ldc2 pm_M287 (pc' := 35) rfl rfl rfl ?_
    refine pm_R_ret pm_M287 (r := some (.long (-1))) rfl rfl ?_
    show pm_R _ 0 1799 [.ref 0, .ref 16, .ref 41, .int 0] [.long (-1), .long (-1)] _ _
    refine pm_R_op pm_M0 (pc' := 1800) (st' := [.int 0]) (pm_q0_22 (Nat.le_of_ble_eq_true rfl)) rfl rfl ?_
    refine pm_R_br pm_M0 (pc' := 2121) (st' := []) (pm_q0_23 (Nat.le_of_ble_eq_true rfl)) rfl ?_
    exact p1_tail (hh 0 (Nat.le_of_ble_eq_true rfl)) (Nat.le_of_ble_eq_true rfl) (Nat.le_of_ble_eq_true rfl) (Nat.le_of_ble_eq_true rfl)
  · refine pm_R_lo pm_M62 (pc' := 5) rfl rfl rfl ?_
    refine pm_R_lo pm_M62 (pc' := 6) rfl rfl rfl ?_
    refine pm_R_get pm_M62 (pc' := 9) (v := .ref 17) rfl rfl (hh 16 (Nat.le_of_ble_eq_true rfl)) (Nat.le_of_ble_eq_true rfl) (Nat.le_of_ble_eq_true rfl) rfl rfl ?_
    refine pm_R_get pm_M62 (pc' := 12) (v := .ref 23) rfl rfl (hh 17 (Nat.le_of_ble_eq_true rfl)) (Nat.le_of_ble_eq_true rfl) (Nat.le_of_ble_eq_true rfl) rfl rfl ?_
    refine pm_R_op pm_M62 (pc' := 13) (st' := [.int 0, .ref 23, .int x1]) rfl rfl rfl ?_
    refine pm_R_iald pm_M62 (pc' := 14) (v := 0) rfl (hh 23 (Nat.le_of_ble_eq_true rfl)) (Nat.le_of_ble_eq_true rfl) rfl rfl rfl ?_
    refine pm_R_icmp pm_M62 (t := 21) (pc' := 17) rfl rfl rfl (fun c_3 => by exact absurd c_3 c_1) (fun c_3 => ?_)
    refine pm_R_op pm_M62 (pc' := 18) (st' := [.null]) rfl rfl rfl ?_
    refine pm_R_br pm_M62 (pc' := 30) rfl rfl ?_
    refine pm_R_ret pm_M62 (r := some (.null)) rfl rfl ?_
    show pm_R _ 137 5 [.ref 16, .int x1, .int x2, .int x3, pm_no] [.null] _ _
    refine pm_R_br pm_M137 (pc' := 27) rfl rfl ?_
    refine pm_R_ldc2 pm_M137 (pc' := 30) rfl rfl rfl ?_
    refine pm_R_ret pm_M137 (r := some (.long (-1))) rfl rfl ?_
    show pm_R _ 0 1780 [.ref 0, .ref 16, .ref 41, .int 0] [.long (-1)] _ _
    refine pm_R_lo pm_M0 (pc' := 1781) (pm_q0_22 (Nat.le_of_ble_eq_true rfl)) rfl rfl ?_
    refine pm_R_lo pm_M0 (pc' := 1782) (pm_q0_22 (Nat.le_of_ble_eq_true rfl)) rfl rfl ?_
    refine pm_R_lo pm_M0 (pc' := 1783) (pm_q0_22 (Nat.le_of_ble_eq_true rfl)) rfl rfl ?_
    refine pm_R_op pm_M0 (pc' := 1784) (st' := [.int 1, .int 0, .ref 0, .ref 41, .long (-1)]) (pm_q0_22 (Nat.le_of_ble_eq_true rfl)) rfl rfl ?_
    refine pm_R_op pm_M0 (pc' := 1785) (st' := [.int 1, .ref 0, .ref 41, .long (-1)]) (pm_q0_22 (Nat.le_of_ble_eq_true rfl)) rfl rfl ?_
    refine pm_R_iald pm_M0 (pc' := 1786) (v := x1) (pm_q0_22 (Nat.le_of_ble_eq_true rfl)) (hh 0 (Nat.le_of_ble_eq_true rfl)) (Nat.le_of_ble_eq_true rfl) rfl hx1 rfl ?_
    refine pm_R_lo pm_M0 (pc' := 1787) (pm_q0_22 (Nat.le_of_ble_eq_true rfl)) rfl rfl ?_
    refine pm_R_lo pm_M0 (pc' := 1788) (pm_q0_22 (Nat.le_of_ble_eq_true rfl)) rfl rfl ?_
    refine pm_R_op pm_M0 (pc' := 1789) (st' := [.int 2, .int 0, .ref 0, .int x1, .ref 41, .long (-1)]) (pm_q0_22 (Nat.le_of_ble_eq_true rfl)) rfl rfl ?_
    refine pm_R_op pm_M0 (pc' := 1790) (st' := [.int 2, .ref 0, .int x1, .ref 41, .long (-1)]) (pm_q0_22 (Nat.le_of_ble_eq_true rfl)) rfl rfl ?_
    refine pm_R_iald pm_M0 (pc' := 1791) (v := x2) (pm_q0_22 (Nat.le_of_ble_eq_true rfl)) (hh 0 (Nat.le_of_ble_eq_true rfl)) (Nat.le_of_ble_eq_true rfl) rfl hx2 rfl ?_
    refine pm_R_lo pm_M0 (pc' := 1792) (pm_q0_22 (Nat.le_of_ble_eq_true rfl)) rfl rfl ?_
    refine pm_R_lo pm_M0 (pc' := 1793) (pm_q0_22 (Nat.le_of_ble_eq_true rfl)) rfl rfl ?_
    refine pm_R_op pm_M0 (pc' := 1794) (st' := [.int 3, .int 0, .ref 0, .int x2, .int x1, .ref 41, .long (-1)]) (pm_q0_22 (Nat.le_of_ble_eq_true rfl)) rfl rfl ?_
    refine pm_R_op pm_M0 (pc' := 1795) (st' := [.int 3, .ref 0, .int x2, .int x1, .ref 41, .long (-1)]) (pm_q0_22 (Nat.le_of_ble_eq_true rfl)) rfl rfl ?_
    refine pm_R_iald pm_M0 (pc' := 1796) (v := x3) (pm_q0_22 (Nat.le_of_ble_eq_true rfl)) (hh 0 (Nat.le_of_ble_eq_true rfl)) (Nat.le_of_ble_eq_true rfl) rfl hx3 rfl ?_
    refine pm_R_cv pm_M0 (pc' := 1799) (a := 41) (ra := [.int x3, .int x2, .int x1]) (rest := [.long (-1)]) (ls' := [.ref 41, .int x1, .int x2, .int x3, pm_no, pm_no, pm_no, pm_no, pm_no, pm_no, pm_no, pm_no, pm_no]) (pm_q0_22 (Nat.le_of_ble_eq_true rfl)) rfl (Or.inl rfl) pm_M287 (hh 41 (Nat.le_of_ble_eq_true rfl)) rfl (Nat.le_of_ble_eq_true rfl) (Nat.le_of_ble_eq_true rfl) rfl rfl (Nat.le_of_ble_eq_true rfl) rfl rfl ?_
    refine pm_R_lo pm_M287 (pc' := 1) rfl rfl rfl ?_
    refine pm_R_op pm_M287 (pc' := 2) (st' := [.int 0, .ref 41]) rfl rfl rfl ?_
    refine pm_R_put pm_M287 (pc' := 5) (fs' := [.int 0, .ref 42, .ref 43, .ref 44, .ref 45, .ref 46, .ref 47, .ref 48, .ref 49, .ref 50, .int 0, .int 0, .int 0, .int 0, .int 0, .long 0, .int 0, .int 0, .int 0, .ref 51, .ref 52, .int 0, .int 0, .int 0, .int 0, .ref 53, .int 0, .int 0, .ref 54, .ref 55, .ref 56, .int 0, .ref 57, .ref 58, .ref 59, .ref 60, .ref 61, .ref 62, .ref 63, .ref 64, .ref 65, .ref 66, .int 0, .int 0, .int 0, .ref 67, .ref 68, .int 0, .ref 69, .int 0, .int 0, .ref 70, .ref 71]) rfl rfl rfl (hh 41 (Nat.le_of_ble_eq_true rfl)) (Nat.le_of_ble_eq_true rfl) (Nat.le_of_ble_eq_true rfl) (Nat.le_of_ble_eq_true rfl) rfl (Or.inl rfl) rfl rfl ?_
    refine pm_R_lo pm_M287 (pc' := 6) rfl rfl rfl ?_
    refine pm_R_op pm_M287 (pc' := 7) (st' := [.int 0, .ref 41]) rfl rfl rfl ?_
    refine pm_R_lo pm_M287 (pc' := 8) rfl rfl rfl ?_
    refine pm_R_cv pm_M287 (pc' := 11) (a := 41) (ra := [.int x1, .int 0]) (rest := []) (ls' := [.ref 41, .int 0, .int x1]) rfl rfl (Or.inl rfl) pm_M177 rfl rfl (Nat.le_of_ble_eq_true rfl) (Nat.le_of_ble_eq_true rfl) rfl rfl (Nat.le_of_ble_eq_true rfl) rfl rfl ?_
    refine pm_R_lo pm_M177 (pc' := 1) rfl rfl rfl ?_
    refine pm_R_op pm_M177 (pc' := 2) (st' := [.int 0, .int x1]) rfl rfl rfl ?_
    refine pm_R_lo pm_M177 (pc' := 3) rfl rfl rfl ?_
    refine pm_R_get pm_M177 (pc' := 6) (v := .ref 46) rfl rfl rfl (Nat.le_of_ble_eq_true rfl) (Nat.le_of_ble_eq_true rfl) rfl rfl ?_
    refine pm_R_lo pm_M177 (pc' := 7) rfl rfl rfl ?_
    refine pm_R_iald pm_M177 (pc' := 8) (v := 0) rfl (hh 46 (Nat.le_of_ble_eq_true rfl)) (Nat.le_of_ble_eq_true rfl) rfl rfl rfl ?_
    refine pm_R_op pm_M177 (pc' := 9) (st' := [.int 1, .int 0, .int 0, .int x1]) rfl rfl rfl ?_
    refine pm_R_op pm_M177 (pc' := 10) (st' := [.int (-1), .int 0, .int x1]) rfl rfl rfl ?_
    refine pm_R_cs pm_M177 (pc' := 13) (ra := [.int (-1), .int 0, .int x1]) (rest := []) (ls' := [.int x1, .int 0, .int (-1)]) rfl rfl (Or.inl rfl) pm_M174 rfl rfl (Nat.le_of_ble_eq_true rfl) rfl rfl ?_
    refine pm_R_lo pm_M174 (pc' := 1) rfl rfl rfl ?_
    refine pm_R_lo pm_M174 (pc' := 2) rfl rfl rfl ?_
    refine pm_R_icmp pm_M174 (t := 14) (pc' := 5) rfl rfl rfl (fun c_4 => by exact absurd c_4 c_1) (fun c_4 => ?_)
    refine pm_R_lo pm_M174 (pc' := 6) rfl rfl rfl ?_
    refine pm_R_lo pm_M174 (pc' := 7) rfl rfl rfl ?_
    refine pm_R_icmp pm_M174 (t := 14) (pc' := 10) rfl rfl rfl (fun c_5 => ?_) (fun c_5 => by have z0 : ((-1) : Int32).toInt = -1 := (by decide); have z1 : ((0) : Int32).toInt = 0 := (by decide); have q0 := (Int32.le_iff_toInt_le.mp (Int32.not_lt.mp c_1)); have q1 := (Int32.le_iff_toInt_le.mp (Int32.not_lt.mp c_5)); exfalso; omega)
    refine pm_R_op pm_M174 (pc' := 15) (st' := [.int 0]) rfl rfl rfl ?_
    refine pm_R_ret pm_M174 (r := some (.int 0)) rfl rfl ?_
    show pm_R _ 177 13 [.ref 41, .int 0, .int x1] [.int 0] _ _
    refine pm_R_ret pm_M177 (r := some (.int 0)) rfl rfl ?_
    show pm_R _ 287 11 [.ref 41, .int x1, .int x2, .int x3, pm_no, pm_no, pm_no, pm_no, pm_no, pm_no, pm_no, pm_no, pm_no] [.int 0] _ _
    refine pm_R_br pm_M287 (pc' := 32) (st' := []) rfl rfl ?_
    refine pm_R_ldc2 pm_M287 (pc' := 35) rfl rfl rfl ?_
    refine pm_R_ret pm_M287 (r := some (.long (-1))) rfl rfl ?_
    show pm_R _ 0 1799 [.ref 0, .ref 16, .ref 41, .int 0] [.long (-1), .long (-1)] _ _
    refine pm_R_op pm_M0 (pc' := 1800) (st' := [.int 0]) (pm_q0_22 (Nat.le_of_ble_eq_true rfl)) rfl rfl ?_
    refine pm_R_br pm_M0 (pc' := 2121) (st' := []) (pm_q0_23 (Nat.le_of_ble_eq_true rfl)) rfl ?_
    exact p1_tail (hh 0 (Nat.le_of_ble_eq_true rfl)) (Nat.le_of_ble_eq_true rfl) (Nat.le_of_ble_eq_true rfl) (Nat.le_of_ble_eq_true rfl)
