set_option maxRecDepth 100000 in
set_option maxHeartbeats 40000000 in
theorem p1_c28 (xs : Nat → Int32) (f : Nat → pm_E) (hh : ∀ i, i < 72 → f i = pm_fF 7 xs i) (x0 x1 x2 x3 x4 x5 x6 : Int32) (hx0 : xs 0 = x0) (hx1 : xs 1 = x1) (hx2 : xs 2 = x2) (hx3 : xs 3 = x3) (hx4 : xs 4 = x4) (hx5 : xs 5 = x5) (hx6 : xs 6 = x6) : pm_R 100 0 1477 [.ref 0, .ref 16, .ref 41, .int 0] [] (72, 52657, f) p1_Q := by
  refine pm_R_lo pm_M0 (pc' := 1478) (pm_q0_18 (Nat.le_of_ble_eq_true rfl)) rfl rfl ?_
  refine pm_R_lo pm_M0 (pc' := 1479) (pm_q0_18 (Nat.le_of_ble_eq_true rfl)) rfl rfl ?_
  refine pm_R_lo pm_M0 (pc' := 1480) (pm_q0_18 (Nat.le_of_ble_eq_true rfl)) rfl rfl ?_
  refine pm_R_op pm_M0 (pc' := 1481) (st' := [.int 1, .int 0, .ref 0, .ref 16]) (pm_q0_18 (Nat.le_of_ble_eq_true rfl)) rfl rfl ?_
  refine pm_R_op pm_M0 (pc' := 1482) (st' := [.int 1, .ref 0, .ref 16]) (pm_q0_18 (Nat.le_of_ble_eq_true rfl)) rfl rfl ?_
  refine pm_R_iald pm_M0 (pc' := 1483) (v := x1) (pm_q0_18 (Nat.le_of_ble_eq_true rfl)) (hh 0 (Nat.le_of_ble_eq_true rfl)) (Nat.le_of_ble_eq_true rfl) rfl hx1 rfl ?_
  refine pm_R_lo pm_M0 (pc' := 1484) (pm_q0_18 (Nat.le_of_ble_eq_true rfl)) rfl rfl ?_
  refine pm_R_lo pm_M0 (pc' := 1485) (pm_q0_18 (Nat.le_of_ble_eq_true rfl)) rfl rfl ?_
  refine pm_R_op pm_M0 (pc' := 1486) (st' := [.int 2, .int 0, .ref 0, .int x1, .ref 16]) (pm_q0_18 (Nat.le_of_ble_eq_true rfl)) rfl rfl ?_
  refine pm_R_op pm_M0 (pc' := 1487) (st' := [.int 2, .ref 0, .int x1, .ref 16]) (pm_q0_18 (Nat.le_of_ble_eq_true rfl)) rfl rfl ?_
  refine pm_R_iald pm_M0 (pc' := 1488) (v := x2) (pm_q0_18 (Nat.le_of_ble_eq_true rfl)) (hh 0 (Nat.le_of_ble_eq_true rfl)) (Nat.le_of_ble_eq_true rfl) rfl hx2 rfl ?_
  refine pm_R_lo pm_M0 (pc' := 1489) (pm_q0_18 (Nat.le_of_ble_eq_true rfl)) rfl rfl ?_
  refine pm_R_lo pm_M0 (pc' := 1490) (pm_q0_18 (Nat.le_of_ble_eq_true rfl)) rfl rfl ?_
  refine pm_R_op pm_M0 (pc' := 1491) (st' := [.int 3, .int 0, .ref 0, .int x2, .int x1, .ref 16]) (pm_q0_18 (Nat.le_of_ble_eq_true rfl)) rfl rfl ?_
  refine pm_R_op pm_M0 (pc' := 1492) (st' := [.int 3, .ref 0, .int x2, .int x1, .ref 16]) (pm_q0_18 (Nat.le_of_ble_eq_true rfl)) rfl rfl ?_
  refine pm_R_iald pm_M0 (pc' := 1493) (v := x3) (pm_q0_18 (Nat.le_of_ble_eq_true rfl)) (hh 0 (Nat.le_of_ble_eq_true rfl)) (Nat.le_of_ble_eq_true rfl) rfl hx3 rfl ?_
  refine pm_R_ifc pm_M0 (t := 1500) (pc' := 1496) (pm_q0_18 (Nat.le_of_ble_eq_true rfl)) rfl rfl (fun c_1 => ?_) (fun c_1 => ?_)
  · have c_1 : x3 = 0 := c_1
    subst c_1
    show pm_R _ 0 1500 [.ref 0, .ref 16, .ref 41, .int 0] [.int x2, .int x1, .ref 16] _ _
    refine pm_R_op pm_M0 (pc' := 1501) (st' := [.int 0, .int x2, .int x1, .ref 16]) (pm_q0_18 (Nat.le_of_ble_eq_true rfl)) rfl rfl ?_
    refine pm_R_cv pm_M0 (pc' := 1504) (a := 16) (ra := [.int 0, .int x2, .int x1]) (rest := []) (ls' := [.ref 16, .int x1, .int x2, .int 0, pm_no, pm_no, pm_no, pm_no, pm_no]) (pm_q0_18 (Nat.le_of_ble_eq_true rfl)) rfl (Or.inl rfl) pm_M157 (hh 16 (Nat.le_of_ble_eq_true rfl)) rfl (Nat.le_of_ble_eq_true rfl) (Nat.le_of_ble_eq_true rfl) rfl rfl (Nat.le_of_ble_eq_true rfl) rfl rfl ?_
    refine pm_R_lo pm_M157 (pc' := 1) rfl rfl rfl ?_
    refine pm_R_lo pm_M157 (pc' := 2) rfl rfl rfl ?_
    refine pm_R_cv pm_M157 (pc' := 5) (a := 16) (ra := [.int x1]) (rest := []) (ls' := [.ref 16, .int x1]) rfl rfl (Or.inl rfl) pm_M139 (hh 16 (Nat.le_of_ble_eq_true rfl)) rfl (Nat.le_of_ble_eq_true rfl) (Nat.le_of_ble_eq_true rfl) rfl rfl (Nat.le_of_ble_eq_true rfl) rfl rfl ?_
    refine pm_R_lo pm_M139 (pc' := 1) rfl rfl rfl ?_
    refine pm_R_ifc pm_M139 (t := 17) (pc' := 4) rfl rfl rfl (fun c_2 => ?_) (fun c_2 => ?_)
    · refine pm_R_op pm_M139 (pc' := 18) (st' := [.null]) rfl rfl rfl ?_
      refine pm_R_br pm_M139 (pc' := 30) rfl rfl ?_
      refine pm_R_ret pm_M139 (r := some (.null)) rfl rfl ?_
      show pm_R _ 157 5 [.ref 16, .int x1, .int x2, .int 0, pm_no, pm_no, pm_no, pm_no, pm_no] [.null] _ _
      refine pm_R_lo pm_M157 (pc' := 7) (ls' := [.ref 16, .int x1, .int x2, .int 0, .null, pm_no, pm_no, pm_no, pm_no]) (st' := []) rfl rfl rfl ?_
      refine pm_R_lo pm_M157 (pc' := 9) rfl rfl rfl ?_
      refine pm_R_br pm_M157 (pc' := 30) rfl rfl ?_
      refine pm_R_op pm_M157 (pc' := 31) (st' := [.int (-1)]) rfl rfl rfl ?_
      refine pm_R_ret pm_M157 (r := some (.int (-1))) rfl rfl ?_
      show pm_R _ 0 1504 [.ref 0, .ref 16, .ref 41, .int 0] [.int (-1)] _ _
      refine pm_R_lo pm_M0 (pc' := 1505) (pm_q0_18 (Nat.le_of_ble_eq_true rfl)) rfl rfl ?_
      refine pm_R_lo pm_M0 (pc' := 1506) (pm_q0_18 (Nat.le_of_ble_eq_true rfl)) rfl rfl ?_
      refine pm_R_lo pm_M0 (pc' := 1507) (pm_q0_18 (Nat.le_of_ble_eq_true rfl)) rfl rfl ?_
      refine pm_R_op pm_M0 (pc' := 1508) (st' := [.int 1, .int 0, .ref 0, .ref 41, .int (-1)]) (pm_q0_18 (Nat.le_of_ble_eq_true rfl)) rfl rfl ?_
      refine pm_R_op pm_M0 (pc' := 1509) (st' := [.int 1, .ref 0, .ref 41, .int (-1)]) (pm_q0_18 (Nat.le_of_ble_eq_true rfl)) rfl rfl ?_
      refine pm_R_iald pm_M0 (pc' := 1510) (v := x1) (pm_q0_18 (Nat.le_of_ble_eq_true rfl)) (hh 0 (Nat.le_of_ble_eq_true rfl)) (Nat.le_of_ble_eq_true rfl) rfl hx1 rfl ?_
      refine pm_R_lo pm_M0 (pc' := 1511) (pm_q0_18 (Nat.le_of_ble_eq_true rfl)) rfl rfl ?_
      refine pm_R_lo pm_M0 (pc' := 1512) (pm_q0_18 (Nat.le_of_ble_eq_true rfl)) rfl rfl ?_
      refine pm_R_op pm_M0 (pc' := 1513) (st' := [.int 2, .int 0, .ref 0, .int x1, .ref 41, .int (-1)]) (pm_q0_18 (Nat.le_of_ble_eq_true rfl)) rfl rfl ?_
      refine pm_R_op pm_M0 (pc' := 1514) (st' := [.int 2, .ref 0, .int x1, .ref 41, .int (-1)]) (pm_q0_18 (Nat.le_of_ble_eq_true rfl)) rfl rfl ?_
      refine pm_R_iald pm_M0 (pc' := 1515) (v := x2) (pm_q0_18 (Nat.le_of_ble_eq_true rfl)) (hh 0 (Nat.le_of_ble_eq_true rfl)) (Nat.le_of_ble_eq_true rfl) rfl hx2 rfl ?_
      refine pm_R_lo pm_M0 (pc' := 1516) (pm_q0_18 (Nat.le_of_ble_eq_true rfl)) rfl rfl ?_
      refine pm_R_lo pm_M0 (pc' := 1517) (pm_q0_18 (Nat.le_of_ble_eq_true rfl)) rfl rfl ?_
      refine pm_R_op pm_M0 (pc' := 1518) (st' := [.int 3, .int 0, .ref 0, .int x2, .int x1, .ref 41, .int (-1)]) (pm_q0_18 (Nat.le_of_ble_eq_true rfl)) rfl rfl ?_
      refine pm_R_op pm_M0 (pc' := 1519) (st' := [.int 3, .ref 0, .int x2, .int x1, .ref 41, .int (-1)]) (pm_q0_19 (Nat.le_of_ble_eq_true rfl)) rfl rfl ?_
      refine pm_R_iald pm_M0 (pc' := 1520) (v := 0) (pm_q0_19 (Nat.le_of_ble_eq_true rfl)) (hh 0 (Nat.le_of_ble_eq_true rfl)) (Nat.le_of_ble_eq_true rfl) rfl hx3 rfl ?_
      refine pm_R_br pm_M0 (pc' := 1527) (st' := [.int x2, .int x1, .ref 41, .int (-1)]) (pm_q0_19 (Nat.le_of_ble_eq_true rfl)) rfl ?_
      refine pm_R_op pm_M0 (pc' := 1528) (st' := [.int 0, .int x2, .int x1, .ref 41, .int (-1)]) (pm_q0_19 (Nat.le_of_ble_eq_true rfl)) rfl rfl ?_
      refine pm_R_cv pm_M0 (pc' := 1531) (a := 41) (ra := [.int 0, .int x2, .int x1]) (rest := [.int (-1)]) (ls' := [.ref 41, .int x1, .int x2, .int 0, pm_no, pm_no, pm_no, pm_no]) (pm_q0_19 (Nat.le_of_ble_eq_true rfl)) rfl (Or.inl rfl) pm_M269 (hh 41 (Nat.le_of_ble_eq_true rfl)) rfl (Nat.le_of_ble_eq_true rfl) (Nat.le_of_ble_eq_true rfl) rfl rfl (Nat.le_of_ble_eq_true rfl) rfl rfl ?_
      refine pm_R_lo pm_M269 (pc' := 1) rfl rfl rfl ?_
      refine pm_R_op pm_M269 (pc' := 2) (st' := [.int 0, .ref 41]) rfl rfl rfl ?_
      refine pm_R_put pm_M269 (pc' := 5) (fs' := [.int 0, .ref 42, .ref 43, .ref 44, .ref 45, .ref 46, .ref 47, .ref 48, .ref 49, .ref 50, .int 0, .int 0, .int 0, .int 0, .int 0, .long 0, .int 0, .int 0, .int 0, .ref 51, .ref 52, .int 0, .int 0, .int 0, .int 0, .ref 53, .int 0, .int 0, .ref 54, .ref 55, .ref 56, .int 0, .ref 57, .ref 58, .ref 59, .ref 60, .ref 61, .ref 62, .ref 63, .ref 64, .ref 65, .ref 66, .int 0, .int 0, .int 0, .ref 67, .ref 68, .int 0, .ref 69, .int 0, .int 0, .ref 70, .ref 71]) rfl rfl rfl (hh 41 (Nat.le_of_ble_eq_true rfl)) (Nat.le_of_ble_eq_true rfl) (Nat.le_of_ble_eq_true rfl) (Nat.le_of_ble_eq_true rfl) rfl (Or.inl rfl) rfl rfl ?_
      refine pm_R_lo pm_M269 (pc' := 6) rfl rfl rfl ?_
      refine pm_R_lo pm_M269 (pc' := 7) rfl rfl rfl ?_
      refine pm_R_cv pm_M269 (pc' := 10) (a := 41) (ra := [.int x1]) (rest := []) (ls' := [.ref 41, .int x1, pm_no, pm_no, pm_no, pm_no]) rfl rfl (Or.inl rfl) pm_M254 rfl rfl (Nat.le_of_ble_eq_true rfl) (Nat.le_of_ble_eq_true rfl) rfl rfl (Nat.le_of_ble_eq_true rfl) rfl rfl ?_
      refine pm_R_lo pm_M254 (pc' := 1) rfl rfl rfl ?_
      refine pm_R_op pm_M254 (pc' := 2) (st' := [.int 2, .ref 41]) rfl rfl rfl ?_
      refine pm_R_lo pm_M254 (pc' := 3) rfl rfl rfl ?_
      refine pm_R_cv pm_M254 (pc' := 6) (a := 41) (ra := [.int x1, .int 2]) (rest := []) (ls' := [.ref 41, .int 2, .int x1]) rfl rfl (Or.inl rfl) pm_M177 rfl rfl (Nat.le_of_ble_eq_true rfl) (Nat.le_of_ble_eq_true rfl) rfl rfl (Nat.le_of_ble_eq_true rfl) rfl rfl ?_
      refine pm_R_lo pm_M177 (pc' := 1) rfl rfl rfl ?_
      refine pm_R_op pm_M177 (pc' := 2) (st' := [.int 0, .int x1]) rfl rfl rfl ?_
      refine pm_R_lo pm_M177 (pc' := 3) rfl rfl rfl ?_
      refine pm_R_get pm_M177 (pc' := 6) (v := .ref 46) rfl rfl rfl (Nat.le_of_ble_eq_true rfl) (Nat.le_of_ble_eq_true rfl) rfl rfl ?_
      refine pm_R_lo pm_M177 (pc' := 7) rfl rfl rfl ?_
      refine pm_R_iald pm_M177 (pc' := 8) (v := 0) rfl (hh 46 (Nat.le_of_ble_eq_true rfl)) (Nat.le_of_ble_eq_true rfl) rfl rfl rfl ?_
      refine pm_R_op pm_M177 (pc' := 9) (st' := [.int 1, .int 0, .int 0, .int x1]) rfl rfl rfl ?_
      refine pm_R_op pm_M177 (pc' := 10) (st' := [.int (-1), .int 0, .int x1]) rfl rfl rfl ?_
      refine pm_R_cs pm_M177 (pc' := 13) (ra := [.int (-1), .int 0, .int x1]) (rest := []) (ls' := [.int x1, .int 0, .int (-1)]) rfl rfl (Or.inl rfl) pm_M174 rfl rfl (Nat.le_of_ble_eq_true rfl) rfl rfl ?_
      refine pm_R_lo pm_M174 (pc' := 1) rfl rfl rfl ?_
      refine pm_R_lo pm_M174 (pc' := 2) rfl rfl rfl ?_
      refine pm_R_icmp pm_M174 (t := 14) (pc' := 5) rfl rfl rfl (fun c_3 => ?_) (fun c_3 => by exact absurd c_2 c_3)
      refine pm_R_op pm_M174 (pc' := 15) (st' := [.int 0]) rfl rfl rfl ?_
      refine pm_R_ret pm_M174 (r := some (.int 0)) rfl rfl ?_
      show pm_R _ 177 13 [.ref 41, .int 2, .int x1] [.int 0] _ _
      refine pm_R_ret pm_M177 (r := some (.int 0)) rfl rfl ?_
      show pm_R _ 254 6 [.ref 41, .int x1, pm_no, pm_no, pm_no, pm_no] [.int 0] _ _
      refine pm_R_br pm_M254 (pc' := 9) (st' := []) rfl rfl ?_
      refine pm_R_op pm_M254 (pc' := 10) (st' := [.int 0]) rfl rfl rfl ?_
      refine pm_R_ret pm_M254 (r := some (.int 0)) rfl rfl ?_
      show pm_R _ 269 10 [.ref 41, .int x1, .int x2, .int 0, pm_no, pm_no, pm_no, pm_no] [.int 0] _ _
      refine pm_R_br pm_M269 (pc' := 29) (st' := []) rfl rfl ?_
      refine pm_R_op pm_M269 (pc' := 30) (st' := [.int (-1)]) rfl rfl rfl ?_
      refine pm_R_ret pm_M269 (r := some (.int (-1))) rfl rfl ?_
      show pm_R _ 0 1531 [.ref 0, .ref 16, .ref 41, .int 0] [.int (-1), .int (-1)] _ _
      refine pm_R_br pm_M0 (pc' := 2121) (st' := []) (pm_q0_19 (Nat.le_of_ble_eq_true rfl)) rfl ?_
      exact p1_tail (hh 0 (Nat.le_of_ble_eq_true rfl)) (Nat.le_of_ble_eq_true rfl) (Nat.le_of_ble_eq_true rfl) (Nat.le_of_ble_eq_true rfl)
    · refine pm_R_lo pm_M139 (pc' := 5) rfl rfl rfl ?_
      refine pm_R_lo pm_M139 (pc' := 6) rfl rfl rfl ?_
      refine pm_R_get pm_M139 (pc' := 9) (v := .ref 17) rfl rfl (hh 16 (Nat.le_of_ble_eq_true rfl)) (Nat.le_of_ble_eq_true rfl) (Nat.le_of_ble_eq_true rfl) rfl rfl ?_
      refine pm_R_get pm_M139 (pc' := 12) (v := .ref 23) rfl rfl (hh 17 (Nat.le_of_ble_eq_true rfl)) (Nat.le_of_ble_eq_true rfl) (Nat.le_of_ble_eq_true rfl) rfl rfl ?_
      refine pm_R_op pm_M139 (pc' := 13) (st' := [.int 2, .ref 23, .int x1]) rfl rfl rfl ?_
      refine pm_R_iald pm_M139 (pc' := 14) (v := 0) rfl (hh 23 (Nat.le_of_ble_eq_true rfl)) (Nat.le_of_ble_eq_true rfl) rfl rfl rfl ?_
      refine pm_R_icmp pm_M139 (t := 21) (pc' := 17) rfl rfl rfl (fun c_4 => by exact absurd c_4 c_2) (fun c_4 => ?_)
      refine pm_R_op pm_M139 (pc' := 18) (st' := [.null]) rfl rfl rfl ?_
      refine pm_R_br pm_M139 (pc' := 30) rfl rfl ?_
      refine pm_R_ret pm_M139 (r := some (.null)) rfl rfl ?_
      show pm_R _ 157 5 [.ref 16, .int x1, .int x2, .int 0, pm_no, pm_no, pm_no, pm_no, pm_no] [.null] _ _
      refine pm_R_lo pm_M157 (pc' := 7) (ls' := [.ref 16, .int x1, .int x2, .int 0, .null, pm_no, pm_no, pm_no, pm_no]) (st' := []) rfl rfl rfl ?_
      refine pm_R_lo pm_M157 (pc' := 9) rfl rfl rfl ?_
      refine pm_R_br pm_M157 (pc' := 30) rfl rfl ?_
      refine pm_R_op pm_M157 (pc' := 31) (st' := [.int (-1)]) rfl rfl rfl ?_
      refine pm_R_ret pm_M157 (r := some (.int (-1))) rfl rfl ?_
      show pm_R _ 0 1504 [.ref 0, .ref 16, .ref 41, .int 0] [.int (-1)] _ _
      refine pm_R_lo pm_M0 (pc' := 1505) (pm_q0_18 (Nat.le_of_ble_eq_true rfl)) rfl rfl ?_
      refine pm_R_lo pm_M0 (pc' := 1506) (pm_q0_18 (Nat.le_of_ble_eq_true rfl)) rfl rfl ?_
      refine pm_R_lo pm_M0 (pc' := 1507) (pm_q0_18 (Nat.le_of_ble_eq_true rfl)) rfl rfl ?_
      refine pm_R_op pm_M0 (pc' := 1508) (st' := [.int 1, .int 0, .ref 0, .ref 41, .int (-1)]) (pm_q0_18 (Nat.le_of_ble_eq_true rfl)) rfl rfl ?_
      refine pm_R_op pm_M0 (pc' := 1509) (st' := [.int 1, .ref 0, .ref 41, .int (-1)]) (pm_q0_18 (Nat.le_of_ble_eq_true rfl)) rfl rfl ?_
      refine pm_R_iald pm_M0 (pc' := 1510) (v := x1) (pm_q0_18 (Nat.le_of_ble_eq_true rfl)) (hh 0 (Nat.le_of_ble_eq_true rfl)) (Nat.le_of_ble_eq_true rfl) rfl hx1 rfl ?_
      refine pm_R_lo pm_M0 (pc' := 1511) (pm_q0_18 (Nat.le_of_ble_eq_true rfl)) rfl rfl ?_
      refine pm_R_lo pm_M0 (pc' := 1512) (pm_q0_18 (Nat.le_of_ble_eq_true rfl)) rfl rfl ?_
      refine pm_R_op pm_M0 (pc' := 1513) (st' := [.int 2, .int 0, .ref 0, .int x1, .ref 41, .int (-1)]) (pm_q0_18 (Nat.le_of_ble_eq_true rfl)) rfl rfl ?_
      refine pm_R_op pm_M0 (pc' := 1514) (st' := [.int 2, .ref 0, .int x1, .ref 41, .int (-1)]) (pm_q0_18 (Nat.le_of_ble_eq_true rfl)) rfl rfl ?_
      refine pm_R_iald pm_M0 (pc' := 1515) (v := x2) (pm_q0_18 (Nat.le_of_ble_eq_true rfl)) (hh 0 (Nat.le_of_ble_eq_true rfl)) (Nat.le_of_ble_eq_true rfl) rfl hx2 rfl ?_
      refine pm_R_lo pm_M0 (pc' := 1516) (pm_q0_18 (Nat.le_of_ble_eq_true rfl)) rfl rfl ?_
      refine pm_R_lo pm_M0 (pc' := 1517) (pm_q0_18 (Nat.le_of_ble_eq_true rfl)) rfl rfl ?_
      refine pm_R_op pm_M0 (pc' := 1518) (st' := [.int 3, .int 0, .ref 0, .int x2, .int x1, .ref 41, .int (-1)]) (pm_q0_18 (Nat.le_of_ble_eq_true rfl)) rfl rfl ?_
      refine pm_R_op pm_M0 (pc' := 1519) (st' := [.int 3, .ref 0, .int x2, .int x1, .ref 41, .int (-1)]) (pm_q0_19 (Nat.le_of_ble_eq_true rfl)) rfl rfl ?_
      refine pm_R_iald pm_M0 (pc' := 1520) (v := 0) (pm_q0_19 (Nat.le_of_ble_eq_true rfl)) (hh 0 (Nat.le_of_ble_eq_true rfl)) (Nat.le_of_ble_eq_true rfl) rfl hx3 rfl ?_
      refine pm_R_br pm_M0 (pc' := 1527) (st' := [.int x2, .int x1, .ref 41, .int (-1)]) (pm_q0_19 (Nat.le_of_ble_eq_true rfl)) rfl ?_
      refine pm_R_op pm_M0 (pc' := 1528) (st' := [.int 0, .int x2, .int x1, .ref 41, .int (-1)]) (pm_q0_19 (Nat.le_of_ble_eq_true rfl)) rfl rfl ?_
      refine pm_R_cv pm_M0 (pc' := 1531) (a := 41) (ra := [.int 0, .int x2, .int x1]) (rest := [.int (-1)]) (ls' := [.ref 41, .int x1, .int x2, .int 0, pm_no, pm_no, pm_no, pm_no]) (pm_q0_19 (Nat.le_of_ble_eq_true rfl)) rfl (Or.inl rfl) pm_M269 (hh 41 (Nat.le_of_ble_eq_true rfl)) rfl (Nat.le_of_ble_eq_true rfl) (Nat.le_of_ble_eq_true rfl) rfl rfl (Nat.le_of_ble_eq_true rfl) rfl rfl ?_
      refine pm_R_lo pm_M269 (pc' := 1) rfl rfl rfl ?_
      refine pm_R_op pm_M269 (pc' := 2) (st' := [.int 0, .ref 41]) rfl rfl rfl ?_
      refine pm_R_put pm_M269 (pc' := 5) (fs' := [.int 0, .ref 42, .ref 43, .ref 44, .ref 45, .ref 46, .ref 47, .ref 48, .ref 49, .ref 50, .int 0, .int 0, .int 0, .int 0, .int 0, .long 0, .int 0, .int 0, .int 0, .ref 51, .ref 52, .int 0, .int 0, .int 0, .int 0, .ref 53, .int 0, .int 0, .ref 54, .ref 55, .ref 56, .int 0, .ref 57, .ref 58, .ref 59, .ref 60, .ref 61, .ref 62, .ref 63, .ref 64, .ref 65, .ref 66, .int 0, .int 0, .int 0, .ref 67, .ref 68, .int 0, .ref 69, .int 0, .int 0, .ref 70, .ref 71]) rfl rfl rfl (hh 41 (Nat.le_of_ble_eq_true rfl)) (Nat.le_of_ble_eq_true rfl) (Nat.le_of_ble_eq_true rfl) (Nat.le_of_ble_eq_true rfl) rfl (Or.inl rfl) rfl rfl ?_
      refine pm_R_lo pm_M269 (pc' := 6) rfl rfl rfl ?_
      refine pm_R_lo pm_M269 (pc' := 7) rfl rfl rfl ?_
      refine pm_R_cv pm_M269 (pc' := 10) (a := 41) (ra := [.int x1]) (rest := []) (ls' := [.ref 41, .int x1, pm_no, pm_no, pm_no, pm_no]) rfl rfl (Or.inl rfl) pm_M254 rfl rfl (Nat.le_of_ble_eq_true rfl) (Nat.le_of_ble_eq_true rfl) rfl rfl (Nat.le_of_ble_eq_true rfl) rfl rfl ?_
      refine pm_R_lo pm_M254 (pc' := 1) rfl rfl rfl ?_
      refine pm_R_op pm_M254 (pc' := 2) (st' := [.int 2, .ref 41]) rfl rfl rfl ?_
      refine pm_R_lo pm_M254 (pc' := 3) rfl rfl rfl ?_
      refine pm_R_cv pm_M254 (pc' := 6) (a := 41) (ra := [.int x1, .int 2]) (rest := []) (ls' := [.ref 41, .int 2, .int x1]) rfl rfl (Or.inl rfl) pm_M177 rfl rfl (Nat.le_of_ble_eq_true rfl) (Nat.le_of_ble_eq_true rfl) rfl rfl (Nat.le_of_ble_eq_true rfl) rfl rfl ?_
      refine pm_R_lo pm_M177 (pc' := 1) rfl rfl rfl ?_
      refine pm_R_op pm_M177 (pc' := 2) (st' := [.int 0, .int x1]) rfl rfl rfl ?_
      refine pm_R_lo pm_M177 (pc' := 3) rfl rfl rfl ?_
      refine pm_R_get pm_M177 (pc' := 6) (v := .ref 46) rfl rfl rfl (Nat.le_of_ble_eq_true rfl) (Nat.le_of_ble_eq_true rfl) rfl rfl ?_
      refine pm_R_lo pm_M177 (pc' := 7) rfl rfl rfl ?_
      refine pm_R_iald pm_M177 (pc' := 8) (v := 0) rfl (hh 46 (Nat.le_of_ble_eq_true rfl)) (Nat.le_of_ble_eq_true rfl) rfl rfl rfl ?_
      refine pm_R_op pm_M177 (pc' := 9) (st' := [.int 1, .int 0, .int 0, .int x1]) rfl rfl rfl ?_
      refine pm_R_op pm_M177 (pc' := 10) (st' := [.int (-1), .int 0, .int x1]) rfl rfl rfl ?_
      refine pm_R_cs pm_M177 (pc' := 13) (ra := [.int (-1), .int 0, .int x1]) (rest := []) (ls' := [.int x1, .int 0, .int (-1)]) rfl rfl (Or.inl rfl) pm_M174 rfl rfl (Nat.le_of_ble_eq_true rfl) rfl rfl ?_
      refine pm_R_lo pm_M174 (pc' := 1) rfl rfl rfl ?_
      refine pm_R_lo pm_M174 (pc' := 2) rfl rfl rfl ?_
      refine pm_R_icmp pm_M174 (t := 14) (pc' := 5) rfl rfl rfl (fun c_5 => by exact absurd c_5 c_2) (fun c_5 => ?_)
      refine pm_R_lo pm_M174 (pc' := 6) rfl rfl rfl ?_
      refine pm_R_lo pm_M174 (pc' := 7) rfl rfl rfl ?_
      refine pm_R_icmp pm_M174 (t := 14) (pc' := 10) rfl rfl rfl (fun c_6 => ?_) (fun c_6 => by have z0 : ((-1) : Int32).toInt = -1 := (by decide); have z1 : ((0) : Int32).toInt = 0 := (by decide); have q0 := (Int32.le_iff_toInt_le.mp (Int32.not_lt.mp c_2)); have q1 := (Int32.le_iff_toInt_le.mp (Int32.not_lt.mp c_6)); exfalso; omega)
      refine pm_R_op pm_M174 (pc' := 15) (st' := [.int 0]) rfl rfl rfl ?_
      refine pm_R_ret pm_M174 (r := some (.int 0)) rfl rfl ?_
      show pm_R _ 177 13 [.ref 41, .int 2, .int x1] [.int 0] _ _
      refine pm_R_ret pm_M177 (r := some (.int 0)) rfl rfl ?_
      show pm_R _ 254 6 [.ref 41, .int x1, pm_no, pm_no, pm_no, pm_no] [.int 0] _ _
      refine pm_R_br pm_M254 (pc' := 9) (st' := []) rfl rfl ?_
      refine pm_R_op pm_M254 (pc' := 10) (st' := [.int 0]) rfl rfl rfl ?_
      refine pm_R_ret pm_M254 (r := some (.int 0)) rfl rfl ?_
      show pm_R _ 269 10 [.ref 41, .int x1, .int x2, .int 0, pm_no, pm_no, pm_no, pm_no] [.int 0] _ _
      refine pm_R_br pm_M269 (pc' := 29) (st' := []) rfl rfl ?_
      refine pm_R_op pm_M269 (pc' := 30) (st' := [.int (-1)]) rfl rfl rfl ?_
      refine pm_R_ret pm_M269 (r := some (.int (-1))) rfl rfl ?_
      show pm_R _ 0 1531 [.ref 0, .ref 16, .ref 41, .int 0] [.int (-1), .int (-1)] _ _
      refine pm_R_br pm_M0 (pc' := 2121) (st' := []) (pm_q0_19 (Nat.le_of_ble_eq_true rfl)) rfl ?_
      exact p1_tail (hh 0 (Nat.le_of_ble_eq_true rfl)) (Nat.le_of_ble_eq_true rfl) (Nat.le_of_ble_eq_true rfl) (Nat.le_of_ble_eq_true rfl)
  · refine pm_R_op pm_M0 (pc' := 1497) (st' := [.int 1, .int x2, .int x1, .ref 16]) (pm_q0_18 (Nat.le_of_ble_eq_true rfl)) rfl rfl ?_
    refine pm_R_br pm_M0 (pc' := 1501) (pm_q0_18 (Nat.le_of_ble_eq_true rfl)) rfl ?_
    refine pm_R_cv pm_M0 (pc' := 1504) (a := 16) (ra := [.int 1, .int x2, .int x1]) (rest := []) (ls' := [.ref 16, .int x1, .int x2, .int 1, pm_no, pm_no, pm_no, pm_no, pm_no]) (pm_q0_18 (Nat.le_of_ble_eq_true rfl)) rfl (Or.inl rfl) pm_M157 (hh 16 (Nat.le_of_ble_eq_true rfl)) rfl (Nat.le_of_ble_eq_true rfl) (Nat.le_of_ble_eq_true rfl) rfl rfl (Nat.le_of_ble_eq_true rfl) rfl rfl ?_
    refine pm_R_lo pm_M157 (pc' := 1) rfl rfl rfl ?_
    refine pm_R_lo pm_M157 (pc' := 2) rfl rfl rfl ?_
    refine pm_R_cv pm_M157 (pc' := 5) (a := 16) (ra := [.int x1]) (rest := []) (ls' := [.ref 16, .int x1]) rfl rfl (Or.inl rfl) pm_M139 (hh 16 (Nat.le_of_ble_eq_true rfl)) rfl (Nat.le_of_ble_eq_true rfl) (Nat.le_of_ble_eq_true rfl) rfl rfl (Nat.le_of_ble_eq_true rfl) rfl rfl ?_
    refine pm_R_lo pm_M139 (pc' := 1) rfl rfl rfl ?_
    refine pm_R_ifc pm_M139 (t := 17) (pc' := 4) rfl rfl rfl (fun c_7 => ?_) (fun c_7 => ?_)
    · refine pm_R_op pm_M139 (pc' := 18) (st' := [.null]) rfl rfl rfl ?_
      refine pm_R_br pm_M139 (pc' := 30) rfl rfl ?_
      refine pm_R_ret pm_M139 (r := some (.null)) rfl rfl ?_
      show pm_R _ 157 5 [.ref 16, .int x1, .int x2, .int 1, pm_no, pm_no, pm_no, pm_no, pm_no] [.null] _ _
      refine pm_R_lo pm_M157 (pc' := 7) (ls' := [.ref 16, .int x1, .int x2, .int 1, .null, pm_no, pm_no, pm_no, pm_no]) (st' := []) rfl rfl rfl ?_
      refine pm_R_lo pm_M157 (pc' := 9) rfl rfl rfl ?_
      refine pm_R_br pm_M157 (pc' := 30) rfl rfl ?_
      refine pm_R_op pm_M157 (pc' := 31) (st' := [.int (-1)]) rfl rfl rfl ?_
      refine pm_R_ret pm_M157 (r := some (.int (-1))) rfl rfl ?_
      show pm_R _ 0 1504 [.ref 0, .ref 16, .ref 41, .int 0] [.int (-1)] _ _
      refine pm_R_lo pm_M0 (pc' := 1505) (pm_q0_18 (Nat.le_of_ble_eq_true rfl)) rfl rfl ?_
      refine pm_R_lo pm_M0 (pc' := 1506) (pm_q0_18 (Nat.le_of_ble_eq_true rfl)) rfl rfl ?_
      refine pm_R_lo pm_M0 (pc' := 1507) (pm_q0_18 (Nat.le_of_ble_eq_true rfl)) rfl rfl ?_
      refine pm_R_op pm_M0 (pc' := 1508) (st' := [.int 1, .int 0, .ref 0, .ref 41, .int (-1)]) (pm_q0_18 (Nat.le_of_ble_eq_true rfl)) rfl rfl ?_
      refine pm_R_op pm_M0 (pc' := 1509) (st' := [.int 1, .ref 0, .ref 41, .int (-1)]) (pm_q0_18 (Nat.le_of_ble_eq_true rfl)) rfl rfl ?_
      refine pm_R_iald pm_M0 (pc' := 1510) (v := x1) (pm_q0_18 (Nat.le_of_ble_eq_true rfl)) (hh 0 (Nat.le_of_ble_eq_true rfl)) (Nat.le_of_ble_eq_true rfl) rfl hx1 rfl ?_
      refine pm_R_lo pm_M0 (pc' := 1511) (pm_q0_18 (Nat.le_of_ble_eq_true rfl)) rfl rfl ?_
      refine pm_R_lo pm_M0 (pc' := 1512) (pm_q0_18 (Nat.le_of_ble_eq_true rfl)) rfl rfl ?_
      refine pm_R_op pm_M0 (pc' := 1513) (st' := [.int 2, .int 0, .ref 0, .int x1, .ref 41, .int (-1)]) (pm_q0_18 (Nat.le_of_ble_eq_true rfl)) rfl rfl ?_
      refine pm_R_op pm_M0 (pc' := 1514) (st' := [.int 2, .ref 0, .int x1, .ref 41, .int (-1)]) (pm_q0_18 (Nat.le_of_ble_eq_true rfl)) rfl rfl ?_
      refine pm_R_iald pm_M0 (pc' := 1515) (v := x2) (pm_q0_18 (Nat.le_of_ble_eq_true rfl)) (hh 0 (Nat.le_of_ble_eq_true rfl)) (Nat.le_of_ble_eq_true rfl) rfl hx2 rfl ?_
      refine pm_R_lo pm_M0 (pc' := 1516) (pm_q0_18 (Nat.le_of_ble_eq_true rfl)) rfl rfl ?_
      refine pm_R_lo pm_M0 (pc' := 1517) (pm_q0_18 (Nat.le_of_ble_eq_true rfl)) rfl rfl ?_
      refine pm_R_op pm_M0 (pc' := 1518) (st' := [.int 3, .int 0, .ref 0, .int x2, .int x1, .ref 41, .int (-1)]) (pm_q0_18 (Nat.le_of_ble_eq_true rfl)) rfl rfl ?_
      refine pm_R_op pm_M0 (pc' := 1519) (st' := [.int 3, .ref 0, .int x2, .int x1, .ref 41, .int (-1)]) (pm_q0_19 (Nat.le_of_ble_eq_true rfl)) rfl rfl ?_
      refine pm_R_iald pm_M0 (pc' := 1520) (v := x3) (pm_q0_19 (Nat.le_of_ble_eq_true rfl)) (hh 0 (Nat.le_of_ble_eq_true rfl)) (Nat.le_of_ble_eq_true rfl) rfl hx3 rfl ?_
      refine pm_R_ifc pm_M0 (t := 1527) (pc' := 1523) (pm_q0_19 (Nat.le_of_ble_eq_true rfl)) rfl rfl (fun c_8 => by exact absurd c_8 c_1) (fun c_8 => ?_)
      refine pm_R_op pm_M0 (pc' := 1524) (st' := [.int 1, .int x2, .int x1, .ref 41, .int (-1)]) (pm_q0_19 (Nat.le_of_ble_eq_true rfl)) rfl rfl ?_
      refine pm_R_br pm_M0 (pc' := 1528) (pm_q0_19 (Nat.le_of_ble_eq_true rfl)) rfl ?_
      refine pm_R_cv pm_M0 (pc' := 1531) (a := 41) (ra := [.int 1, .int x2, .int x1]) (rest := [.int (-1)]) (ls' := [.ref 41, .int x1, .int x2, .int 1, pm_no, pm_no, pm_no, pm_no]) (pm_q0_19 (Nat.le_of_ble_eq_true rfl)) rfl (Or.inl rfl) pm_M269 (hh 41 (Nat.le_of_ble_eq_true rfl)) rfl (Nat.le_of_ble_eq_true rfl) (Nat.le_of_ble_eq_true rfl) rfl rfl (Nat.le_of_ble_eq_true rfl) rfl rfl ?_
      refine pm_R_lo pm_M269 (pc' := 1) rfl rfl rfl ?_
      refine pm_R_op pm_M269 (pc' := 2) (st' := [.int 0, .ref 41]) rfl rfl rfl ?_
      refine pm_R_put pm_M269 (pc' := 5) (fs' := [.int 0, .ref 42, .ref 43, .ref 44, .ref 45, .ref 46, .ref 47, .ref 48, .ref 49, .ref 50, .int 0, .int 0, .int 0, .int 0, .int 0, .long 0, .int 0, .int 0, .int 0, .ref 51, .ref 52, .int 0, .int 0, .int 0, .int 0, .ref 53, .int 0, .int 0, .ref 54, .ref 55, .ref 56, .int 0, .ref 57, .ref 58, .ref 59, .ref 60, .ref 61, .ref 62, .ref 63, .ref 64, .ref 65, .ref 66, .int 0, .int 0, .int 0, .ref 67, .ref 68, .int 0, .ref 69, .int 0, .int 0, .ref 70, .ref 71]) rfl rfl rfl (hh 41 (Nat.le_of_ble_eq_true rfl)) (Nat.le_of_ble_eq_true rfl) (Nat.le_of_ble_eq_true rfl) (Nat.le_of_ble_eq_true rfl) rfl (Or.inl rfl) rfl rfl ?_
      refine pm_R_lo pm_M269 (pc' := 6) rfl rfl rfl ?_
      refine pm_R_lo pm_M269 (pc' := 7) rfl rfl rfl ?_
      refine pm_R_cv pm_M269 (pc' := 10) (a := 41) (ra := [.int x1]) (rest := []) (ls' := [.ref 41, .int x1, pm_no, pm_no, pm_no, pm_no]) rfl rfl (Or.inl rfl) pm_M254 rfl rfl (Nat.le_of_ble_eq_true rfl) (Nat.le_of_ble_eq_true rfl) rfl rfl (Nat.le_of_ble_eq_true rfl) rfl rfl ?_
      refine pm_R_lo pm_M254 (pc' := 1) rfl rfl rfl ?_
      refine pm_R_op pm_M254 (pc' := 2) (st' := [.int 2, .ref 41]) rfl rfl rfl ?_
      refine pm_R_lo pm_M254 (pc' := 3) rfl rfl rfl ?_
      refine pm_R_cv pm_M254 (pc' := 6) (a := 41) (ra := [.int x1, .int 2]) (rest := []) (ls' := [.ref 41, .int 2, .int x1]) rfl rfl (Or.inl rfl) pm_M177 rfl rfl (Nat.le_of_ble_eq_true rfl) (Nat.le_of_ble_eq_true rfl) rfl rfl (Nat.le_of_ble_eq_true rfl) rfl rfl ?_
      refine pm_R_lo pm_M177 (pc' := 1) rfl rfl rfl ?_
      refine pm_R_op pm_M177 (pc' := 2) (st' := [.int 0, .int x1]) rfl rfl rfl ?_
      refine pm_R_lo pm_M177 (pc' := 3) rfl rfl rfl ?_
      refine pm_R_get pm_M177 (pc' := 6) (v := .ref 46) rfl rfl rfl (Nat.le_of_ble_eq_true rfl) (Nat.le_of_ble_eq_true rfl) rfl rfl ?_
      refine pm_R_lo pm_M177 (pc' := 7) rfl rfl rfl ?_
      refine pm_R_iald pm_M177 (pc' := 8) (v := 0) rfl (hh 46 (Nat.le_of_ble_eq_true rfl)) (Nat.le_of_ble_eq_true rfl) rfl rfl rfl ?_
      refine pm_R_op pm_M177 (pc' := 9) (st' := [.int 1, .int 0, .int 0, .int x1]) rfl rfl rfl ?_
      refine pm_R_op pm_M177 (pc' := 10) (st' := [.int (-1), .int 0, .int x1]) rfl rfl rfl ?_
      refine pm_R_cs pm_M177 (pc' := 13) (ra := [.int (-1), .int 0, .int x1]) (rest := []) (ls' := [.int x1, .int 0, .int (-1)]) rfl rfl (Or.inl rfl) pm_M174 rfl rfl (Nat.le_of_ble_eq_true rfl) rfl rfl ?_
      refine pm_R_lo pm_M174 (pc' := 1) rfl rfl rfl ?_
      refine pm_R_lo pm_M174 (pc' := 2) rfl rfl rfl ?_
      refine pm_R_icmp pm_M174 (t := 14) (pc' := 5) rfl rfl rfl (fun c_9 => ?_) (fun c_9 => by exact absurd c_7 c_9)
      refine pm_R_op pm_M174 (pc' := 15) (st' := [.int 0]) rfl rfl rfl ?_
      refine pm_R_ret pm_M174 (r := some (.int 0)) rfl rfl ?_
      show pm_R _ 177 13 [.ref 41, .int 2, .int x1] [.int 0] _ _
      refine pm_R_ret pm_M177 (r := some (.int 0)) rfl rfl ?_
      show pm_R _ 254 6 [.ref 41, .int x1, pm_no, pm_no, pm_no, pm_no] [.int 0] _ _
      refine pm_R_br pm_M254 (pc' := 9) (st' := []) rfl rfl ?_
      refine pm_R_op pm_M254 (pc' := 10) (st' := [.int 0]) rfl rfl rfl ?_
      refine pm_R_ret pm_M254 (r := some (.int 0)) rfl rfl ?_
      show pm_R _ 269 10 [.ref 41, .int x1, .int x2, .int 1, pm_no, pm_no, pm_no, pm_no] [.int 0] _ _
      refine pm_R_br pm_M269 (pc' := 29) (st' := []) rfl rfl ?_
      refine pm_R_op pm_M269 (pc' := 30) (st' := [.int (-1)]) rfl rfl rfl ?_
      refine pm_R_ret pm_M269 (r := some (.int (-1))) rfl rfl ?_
      show pm_R _ 0 1531 [.ref 0, .ref 16, .ref 41, .int 0] [.int (-1), .int (-1)] _ _
      refine pm_R_br pm_M0 (pc' := 2121) (st' := []) (pm_q0_19 (Nat.le_of_ble_eq_true rfl)) rfl ?_
      exact p1_tail (hh 0 (Nat.le_of_ble_eq_true rfl)) (Nat.le_of_ble_eq_true rfl) (Nat.le_of_ble_eq_true rfl) (Nat.le_of_ble_eq_true rfl)
    · refine pm_R_lo pm_M139 (pc' := 5) rfl rfl rfl ?_
      refine pm_R_lo pm_M139 (pc' := 6) rfl rfl rfl ?_
      refine pm_R_get pm_M139 (pc' := 9) (v := .ref 17) rfl rfl (hh 16 (Nat.le_of_ble_eq_true rfl)) (Nat.le_of_ble_eq_true rfl) (Nat.le_of_ble_eq_true rfl) rfl rfl ?_
      refine pm_R_get pm_M139 (pc' := 12) (v := .ref 23) rfl rfl (hh 17 (Nat.le_of_ble_eq_true rfl)) (Nat.le_of_ble_eq_true rfl) (Nat.le_of_ble_eq_true rfl) rfl rfl ?_
      refine pm_R_op pm_M139 (pc' := 13) (st' := [.int 2, .ref 23, .int x1]) rfl rfl rfl ?_
      refine pm_R_iald pm_M139 (pc' := 14) (v := 0) rfl (hh 23 (Nat.le_of_ble_eq_true rfl)) (Nat.le_of_ble_eq_true rfl) rfl rfl rfl ?_
      refine pm_R_icmp pm_M139 (t := 21) (pc' := 17) rfl rfl rfl (fun c_10 => by exact absurd c_10 c_7) (fun c_10 => ?_)
      refine pm_R_op pm_M139 (pc' := 18) (st' := [.null]) rfl rfl rfl ?_
      refine pm_R_br pm_M139 (pc' := 30) rfl rfl ?_
      refine pm_R_ret pm_M139 (r := some (.null)) rfl rfl ?_
      show pm_R _ 157 5 [.ref 16, .int x1, .int x2, .int 1, pm_no, pm_no, pm_no, pm_no, pm_no] [.null] _ _
      refine pm_R_lo pm_M157 (pc' := 7) (ls' := [.ref 16, .int x1, .int x2, .int 1, .null, pm_no, pm_no, pm_no, pm_no]) (st' := []) rfl rfl rfl ?_
      refine pm_R_lo pm_M157 (pc' := 9) rfl rfl rfl ?_
      refine pm_R_br pm_M157 (pc' := 30) rfl rfl ?_
      refine pm_R_op pm_M157 (pc' := 31) (st' := [.int (-1)]) rfl rfl rfl ?_
      refine pm_R_ret pm_M157 (r := some (.int (-1))) rfl rfl ?_
      show pm_R _ 0 1504 [.ref 0, .ref 16, .ref 41, .int 0] [.int (-1)] _ _
      refine pm_R_lo pm_M0 (pc' := 1505) (pm_q0_18 (Nat.le_of_ble_eq_true rfl)) rfl rfl ?_
      refine pm_R_lo pm_M0 (pc' := 1506) (pm_q0_18 (Nat.le_of_ble_eq_true rfl)) rfl rfl ?_
      refine pm_R_lo pm_M0 (pc' := 1507) (pm_q0_18 (Nat.le_of_ble_eq_true rfl)) rfl rfl ?_
      refine pm_R_op pm_M0 (pc' := 1508) (st' := [.int 1, .int 0, .ref 0, .ref 41, .int (-1)]) (pm_q0_18 (Nat.le_of_ble_eq_true rfl)) rfl rfl ?_
      refine pm_R_op pm_M0 (pc' := 1509) (st' := [.int 1, .ref 0, .ref 41, .int (-1)]) (pm_q0_18 (Nat.le_of_ble_eq_true rfl)) rfl rfl ?_
      refine pm_R_iald pm_M0 (pc' := 1510) (v := x1) (pm_q0_18 (Nat.le_of_ble_eq_true rfl)) (hh 0 (Nat.le_of_ble_eq_true rfl)) (Nat.le_of_ble_eq_true rfl) rfl hx1 rfl ?_
      refine pm_R_lo pm_M0 (pc' := 1511) (pm_q0_18 (Nat.le_of_ble_eq_true rfl)) rfl rfl ?_
      refine pm_R_lo pm_M0 (pc' := 1512) (pm_q0_18 (Nat.le_of_ble_eq_true rfl)) rfl rfl ?_
      refine pm_R_op pm_M0 (pc' := 1513) (st' := [.int 2, .int 0, .ref 0, .int x1, .ref 41, .int (-1)]) (pm_q0_18 (Nat.le_of_ble_eq_true rfl)) rfl rfl ?_
      refine pm_R_op pm_M0 (pc' := 1514) (st' := [.int 2, .ref 0, .int x1, .ref 41, .int (-1)]) (pm_q0_18 (Nat.le_of_ble_eq_true rfl)) rfl rfl ?_
      refine pm_R_iald pm_M0 (pc' := 1515) (v := x2) (pm_q0_18 (Nat.le_of_ble_eq_true rfl)) (hh 0 (Nat.le_of_ble_eq_true rfl)) (Nat.le_of_ble_eq_true rfl) rfl hx2 rfl ?_
      refine pm_R_lo pm_M0 (pc' := 1516) (pm_q0_18 (Nat.le_of_ble_eq_true rfl)) rfl rfl ?_
      refine pm_R_lo pm_M0 (pc' := 1517) (pm_q0_18 (Nat.le_of_ble_eq_true rfl)) rfl rfl ?_
      refine pm_R_op pm_M0 (pc' := 1518) (st' := [.int 3, .int 0, .ref 0, .int x2, .int x1, .ref 41, .int (-1)]) (pm_q0_18 (Nat.le_of_ble_eq_true rfl)) rfl rfl ?_
      refine pm_R_op pm_M0 (pc' := 1519) (st' := [.int 3, .ref 0, .int x2, .int x1, .ref 41, .int (-1)]) (pm_q0_19 (Nat.le_of_ble_eq_true rfl)) rfl rfl ?_
      refine pm_R_iald pm_M0 (pc' := 1520) (v := x3) (pm_q0_19 (Nat.le_of_ble_eq_true rfl)) (hh 0 (Nat.le_of_ble_eq_true rfl)) (Nat.le_of_ble_eq_true rfl) rfl hx3 rfl ?_
      refine pm_R_ifc pm_M0 (t := 1527) (pc' := 1523) (pm_q0_19 (Nat.le_of_ble_eq_true rfl)) rfl rfl (fun c_11 => by exact absurd c_11 c_1) (fun c_11 => ?_)
      refine pm_R_op pm_M0 (pc' := 1524) (st' := [.int 1, .int x2, .int x1, .ref 41, .int (-1)]) (pm_q0_19 (Nat.le_of_ble_eq_true rfl)) rfl rfl ?_
      refine pm_R_br pm_M0 (pc' := 1528) (pm_q0_19 (Nat.le_of_ble_eq_true rfl)) rfl ?_
      refine pm_R_cv pm_M0 (pc' := 1531) (a := 41) (ra := [.int 1, .int x2, .int x1]) (rest := [.int (-1)]) (ls' := [.ref 41, .int x1, .int x2, .int 1, pm_no, pm_no, pm_no, pm_no]) (pm_q0_19 (Nat.le_of_ble_eq_true rfl)) rfl (Or.inl rfl) pm_M269 (hh 41 (Nat.le_of_ble_eq_true rfl)) rfl (Nat.le_of_ble_eq_true rfl) (Nat.le_of_ble_eq_true rfl) rfl rfl (Nat.le_of_ble_eq_true rfl) rfl rfl ?_
      refine pm_R_lo pm_M269 (pc' := 1) rfl rfl rfl ?_
      refine pm_R_op pm_M269 (pc' := 2) (st' := [.int 0, .ref 41]) rfl rfl rfl ?_
      refine pm_R_put pm_M269 (pc' := 5) (fs' := [.int 0, .ref 42, .ref 43, .ref 44, .ref 45, .ref 46, .ref 47, .ref 48, .ref 49, .ref 50, .int 0, .int 0, .int 0, .int 0, .int 0, .long 0, .int 0, .int 0, .int 0, .ref 51, .ref 52, .int 0, .int 0, .int 0, .int 0, .ref 53, .int 0, .int 0, .ref 54, .ref 55, .ref 56, .int 0, .ref 57, .ref 58, .ref 59, .ref 60, .ref 61, .ref 62, .ref 63, .ref 64, .ref 65, .ref 66, .int 0, .int 0, .int 0, .ref 67, .ref 68, .int 0, .ref 69, .int 0, .int 0, .ref 70, .ref 71]) rfl rfl rfl (hh 41 (Nat.le_of_ble_eq_true rfl)) (Nat.le_of_ble_eq_true rfl) (Nat.le_of_ble_eq_true rfl) (Nat.le_of_ble_eq_true rfl) rfl (Or.inl rfl) rfl rfl ?_
      refine pm_R_lo pm_M269 (pc' := 6) rfl rfl rfl ?_
      refine pm_R_lo pm_M269 (pc' := 7) rfl rfl rfl ?_
      refine pm_R_cv pm_M269 (pc' := 10) (a := 41) (ra := [.int x1]) (rest := []) (ls' := [.ref 41, .int x1, pm_no, pm_no, pm_no, pm_no]) rfl rfl (Or.inl rfl) pm_M254 rfl rfl (Nat.le_of_ble_eq_true rfl) (Nat.le_of_ble_eq_true rfl) rfl rfl (Nat.le_of_ble_eq_true rfl) rfl rfl ?_
      refine pm_R_lo pm_M254 (pc' := 1) rfl rfl rfl ?_
      refine pm_R_op pm_M254 (pc' := 2) (st' := [.int 2, .ref 41]) rfl rfl rfl ?_
      refine pm_R_lo pm_M254 (pc' := 3) rfl rfl rfl ?_
      refine pm_R_cv pm_M254 (pc' := 6) (a := 41) (ra := [.int x1, .int 2]) (rest := []) (ls' := [.ref 41, .int 2, .int x1]) rfl rfl (Or.inl rfl) pm_M177 rfl rfl (Nat.le_of_ble_eq_true rfl) (Nat.le_of_ble_eq_true rfl) rfl rfl (Nat.le_of_ble_eq_true rfl) rfl rfl ?_
      refine pm_R_lo pm_M177 (pc' := 1) rfl rfl rfl ?_
      refine pm_R_op pm_M177 (pc' := 2) (st' := [.int 0, .int x1]) rfl rfl rfl ?_
      refine pm_R_lo pm_M177 (pc' := 3) rfl rfl rfl ?_
      refine pm_R_get pm_M177 (pc' := 6) (v := .ref 46) rfl rfl rfl (Nat.le_of_ble_eq_true rfl) (Nat.le_of_ble_eq_true rfl) rfl rfl ?_
      refine pm_R_lo pm_M177 (pc' := 7) rfl rfl rfl ?_
      refine pm_R_iald pm_M177 (pc' := 8) (v := 0) rfl (hh 46 (Nat.le_of_ble_eq_true rfl)) (Nat.le_of_ble_eq_true rfl) rfl rfl rfl ?_
      refine pm_R_op pm_M177 (pc' := 9) (st' := [.int 1, .int 0, .int 0, .int x1]) rfl rfl rfl ?_
      refine pm_R_op pm_M177 (pc' := 10) (st' := [.int (-1), .int 0, .int x1]) rfl rfl rfl ?_
      refine pm_R_cs pm_M177 (pc' := 13) (ra := [.int (-1), .int 0, .int x1]) (rest := []) (ls' := [.int x1, .int 0, .int (-1)]) rfl rfl (Or.inl rfl) pm_M174 rfl rfl (Nat.le_of_ble_eq_true rfl) rfl rfl ?_
      refine pm_R_lo pm_M174 (pc' := 1) rfl rfl rfl ?_
      refine pm_R_lo pm_M174 (pc' := 2) rfl rfl rfl ?_
      refine pm_R_icmp pm_M174 (t := 14) (pc' := 5) rfl rfl rfl (fun c_12 => by exact absurd c_12 c_7) (fun c_12 => ?_)
      refine pm_R_lo pm_M174 (pc' := 6) rfl rfl rfl ?_
      refine pm_R_lo pm_M174 (pc' := 7) rfl rfl rfl ?_
      refine pm_R_icmp pm_M174 (t := 14) (pc' := 10) rfl rfl rfl (fun c_13 => ?_) (fun c_13 => by have z0 : ((-1) : Int32).toInt = -1 := (by decide); have z1 : ((0) : Int32).toInt = 0 := (by decide); have q0 := (Int32.le_iff_toInt_le.mp (Int32.not_lt.mp c_7)); have q1 := (Int32.le_iff_toInt_le.mp (Int32.not_lt.mp c_13)); exfalso; omega)
      refine pm_R_op pm_M174 (pc' := 15) (st' := [.int 0]) rfl rfl rfl ?_
      refine pm_R_ret pm_M174 (r := some (.int 0)) rfl rfl ?_
      show pm_R _ 177 13 [.ref 41, .int 2, .int x1] [.int 0] _ _
      refine pm_R_ret pm_M177 (r := some (.int 0)) rfl rfl ?_
      show pm_R _ 254 6 [.ref 41, .int x1, pm_no, pm_no, pm_no, pm_no] [.int 0] _ _
      refine pm_R_br pm_M254 (pc' := 9) (st' := []) rfl rfl ?_
      refine pm_R_op pm_M254 (pc' := 10) (st' := [.int 0]) rfl rfl rfl ?_
      refine pm_R_ret pm_M254 (r := some (.int 0)) rfl rfl ?_
      show pm_R _ 269 10 [.ref 41, .int x1, .int x2, .int 1, pm_no, pm_no, pm_no, pm_no] [.int 0] _ _
      refine pm_R_br pm_M269 (pc' := 29) (st' := []) rfl rfl ?_
      refine pm_R_op pm_M269 (pc' := 30) (st' := [.int (-1)]) rfl rfl rfl ?_
      refine pm_R_ret pm_M269 (r := some (.int (-1))) rfl rfl ?_
      show pm_R _ 0 1531 [.ref 0, .ref 16, .ref 41, .int 0] [.int (-1), .int (-1)] _ _
      refine pm_R_br pm_M0 (pc' := 2121) (st' := []) (pm_q0_19 (Nat.le_of_ble_eq_true rfl)) rfl ?_
      exact p1_tail (hh 0 (Nat.le_of_ble_eq_true rfl)) (Nat.le_of_ble_eq_true rfl) (Nat.le_of_ble_eq_true rfl) (Nat.le_of_ble_eq_true rfl)
set_option maxRecDepth 100000 in
set_option maxHeartbeats 40000000 in
theorem p1_c29 (xs : Nat → Int32) (f : Nat → pm_E) (hh : ∀ i, i < 72 → f i = pm_fF 7 xs i) (x0 x1 x2 x3 x4 x5 x6 : Int32) (hx0 : xs 0 = x0) (hx1 : xs 1 = x1) (hx2 : xs 2 = x2) (hx3 : xs 3 = x3) (hx4 : xs 4 = x4) (hx5 : xs 5 = x5) (hx6 : xs 6 = x6) : pm_R 100 0 1536 [.ref 0, .ref 16, .ref 41, .int 0] [] (72, 52657, f) p1_Q := by
  refine pm_R_lo pm_M0 (pc' := 1537) (pm_q0_19 (Nat.le_of_ble_eq_true rfl)) rfl rfl ?_
  refine pm_R_lo pm_M0 (pc' := 1538) (pm_q0_19 (Nat.le_of_ble_eq_true rfl)) rfl rfl ?_
  refine pm_R_lo pm_M0 (pc' := 1539) (pm_q0_19 (Nat.le_of_ble_eq_true rfl)) rfl rfl ?_
  refine pm_R_op pm_M0 (pc' := 1540) (st' := [.int 1, .int 0, .ref 0, .ref 16]) (pm_q0_19 (Nat.le_of_ble_eq_true rfl)) rfl rfl ?_
  refine pm_R_op pm_M0 (pc' := 1541) (st' := [.int 1, .ref 0, .ref 16]) (pm_q0_19 (Nat.le_of_ble_eq_true rfl)) rfl rfl ?_
  refine pm_R_iald pm_M0 (pc' := 1542) (v := x1) (pm_q0_19 (Nat.le_of_ble_eq_true rfl)) (hh 0 (Nat.le_of_ble_eq_true rfl)) (Nat.le_of_ble_eq_true rfl) rfl hx1 rfl ?_
  refine pm_R_lo pm_M0 (pc' := 1543) (pm_q0_19 (Nat.le_of_ble_eq_true rfl)) rfl rfl ?_
  refine pm_R_lo pm_M0 (pc' := 1544) (pm_q0_19 (Nat.le_of_ble_eq_true rfl)) rfl rfl ?_
  refine pm_R_op pm_M0 (pc' := 1545) (st' := [.int 2, .int 0, .ref 0, .int x1, .ref 16]) (pm_q0_19 (Nat.le_of_ble_eq_true rfl)) rfl rfl ?_
  refine pm_R_op pm_M0 (pc' := 1546) (st' := [.int 2, .ref 0, .int x1, .ref 16]) (pm_q0_19 (Nat.le_of_ble_eq_true rfl)) rfl rfl ?_
  refine pm_R_iald pm_M0 (pc' := 1547) (v := x2) (pm_q0_19 (Nat.le_of_ble_eq_true rfl)) (hh 0 (Nat.le_of_ble_eq_true rfl)) (Nat.le_of_ble_eq_true rfl) rfl hx2 rfl ?_
  refine pm_R_lo pm_M0 (pc' := 1548) (pm_q0_19 (Nat.le_of_ble_eq_true rfl)) rfl rfl ?_
  refine pm_R_lo pm_M0 (pc' := 1549) (pm_q0_19 (Nat.le_of_ble_eq_true rfl)) rfl rfl ?_
  refine pm_R_op pm_M0 (pc' := 1550) (st' := [.int 3, .int 0, .ref 0, .int x2, .int x1, .ref 16]) (pm_q0_19 (Nat.le_of_ble_eq_true rfl)) rfl rfl ?_
  refine pm_R_op pm_M0 (pc' := 1551) (st' := [.int 3, .ref 0, .int x2, .int x1, .ref 16]) (pm_q0_19 (Nat.le_of_ble_eq_true rfl)) rfl rfl ?_
  refine pm_R_iald pm_M0 (pc' := 1552) (v := x3) (pm_q0_19 (Nat.le_of_ble_eq_true rfl)) (hh 0 (Nat.le_of_ble_eq_true rfl)) (Nat.le_of_ble_eq_true rfl) rfl hx3 rfl ?_
  refine pm_R_cv pm_M0 (pc' := 1555) (a := 16) (ra := [.int x3, .int x2, .int x1]) (rest := []) (ls' := [.ref 16, .int x1, .int x2, .int x3, pm_no]) (pm_q0_19 (Nat.le_of_ble_eq_true rfl)) rfl (Or.inl rfl) pm_M162 (hh 16 (Nat.le_of_ble_eq_true rfl)) rfl (Nat.le_of_ble_eq_true rfl) (Nat.le_of_ble_eq_true rfl) rfl rfl (Nat.le_of_ble_eq_true rfl) rfl rfl ?_
  refine pm_R_lo pm_M162 (pc' := 1) rfl rfl rfl ?_
  refine pm_R_lo pm_M162 (pc' := 2) rfl rfl rfl ?_
  refine pm_R_cv pm_M162 (pc' := 5) (a := 16) (ra := [.int x1]) (rest := []) (ls' := [.ref 16, .int x1]) rfl rfl (Or.inl rfl) pm_M163 (hh 16 (Nat.le_of_ble_eq_true rfl)) rfl (Nat.le_of_ble_eq_true rfl) (Nat.le_of_ble_eq_true rfl) rfl rfl (Nat.le_of_ble_eq_true rfl) rfl rfl ?_
  refine pm_R_lo pm_M163 (pc' := 1) rfl rfl rfl ?_
  refine pm_R_ifc pm_M163 (t := 17) (pc' := 4) rfl rfl rfl (fun c_1 => ?_) (fun c_1 => ?_)
  · refine pm_R_op pm_M163 (pc' := 18) (st' := [.null]) rfl rfl rfl ?_
    refine pm_R_br pm_M163 (pc' := 30) rfl rfl ?_
    refine pm_R_ret pm_M163 (r := some (.null)) rfl rfl ?_
    show pm_R _ 162 5 [.ref 16, .int x1, .int x2, .int x3, pm_no] [.null] _ _
    refine pm_R_lo pm_M162 (pc' := 7) (ls' := [.ref 16, .int x1, .int x2, .int x3, .null]) (st' := []) rfl rfl rfl ?_
    refine pm_R_lo pm_M162 (pc' := 9) rfl rfl rfl ?_
    refine pm_R_br pm_M162 (pc' := 21) rfl rfl ?_
    refine pm_R_op pm_M162 (pc' := 23) (st' := [.int (-2)]) rfl rfl rfl ?_
    refine pm_R_ret pm_M162 (r := some (.int (-2))) rfl rfl ?_
    show pm_R _ 0 1555 [.ref 0, .ref 16, .ref 41, .int 0] [.int (-2)] _ _
    refine pm_R_lo pm_M0 (pc' := 1556) (pm_q0_19 (Nat.le_of_ble_eq_true rfl)) rfl rfl ?_
    refine pm_R_lo pm_M0 (pc' := 1557) (pm_q0_19 (Nat.le_of_ble_eq_true rfl)) rfl rfl ?_
    refine pm_R_lo pm_M0 (pc' := 1558) (pm_q0_19 (Nat.le_of_ble_eq_true rfl)) rfl rfl ?_
    refine pm_R_op pm_M0 (pc' := 1559) (st' := [.int 1, .int 0, .ref 0, .ref 41, .int (-2)]) (pm_q0_19 (Nat.le_of_ble_eq_true rfl)) rfl rfl ?_
    refine pm_R_op pm_M0 (pc' := 1560) (st' := [.int 1, .ref 0, .ref 41, .int (-2)]) (pm_q0_19 (Nat.le_of_ble_eq_true rfl)) rfl rfl ?_
    refine pm_R_iald pm_M0 (pc' := 1561) (v := x1) (pm_q0_19 (Nat.le_of_ble_eq_true rfl)) (hh 0 (Nat.le_of_ble_eq_true rfl)) (Nat.le_of_ble_eq_true rfl) rfl hx1 rfl ?_
    refine pm_R_lo pm_M0 (pc' := 1562) (pm_q0_19 (Nat.le_of_ble_eq_true rfl)) rfl rfl ?_
    refine pm_R_lo pm_M0 (pc' := 1563) (pm_q0_19 (Nat.le_of_ble_eq_true rfl)) rfl rfl ?_
    refine pm_R_op pm_M0 (pc' := 1564) (st' := [.int 2, .int 0, .ref 0, .int x1, .ref 41, .int (-2)]) (pm_q0_19 (Nat.le_of_ble_eq_true rfl)) rfl rfl ?_
    refine pm_R_op pm_M0 (pc' := 1565) (st' := [.int 2, .ref 0, .int x1, .ref 41, .int (-2)]) (pm_q0_19 (Nat.le_of_ble_eq_true rfl)) rfl rfl ?_
    refine pm_R_iald pm_M0 (pc' := 1566) (v := x2) (pm_q0_19 (Nat.le_of_ble_eq_true rfl)) (hh 0 (Nat.le_of_ble_eq_true rfl)) (Nat.le_of_ble_eq_true rfl) rfl hx2 rfl ?_
    refine pm_R_lo pm_M0 (pc' := 1567) (pm_q0_19 (Nat.le_of_ble_eq_true rfl)) rfl rfl ?_
    refine pm_R_lo pm_M0 (pc' := 1568) (pm_q0_19 (Nat.le_of_ble_eq_true rfl)) rfl rfl ?_
    refine pm_R_op pm_M0 (pc' := 1569) (st' := [.int 3, .int 0, .ref 0, .int x2, .int x1, .ref 41, .int (-2)]) (pm_q0_19 (Nat.le_of_ble_eq_true rfl)) rfl rfl ?_
    refine pm_R_op pm_M0 (pc' := 1570) (st' := [.int 3, .ref 0, .int x2, .int x1, .ref 41, .int (-2)]) (pm_q0_19 (Nat.le_of_ble_eq_true rfl)) rfl rfl ?_
    refine pm_R_iald pm_M0 (pc' := 1571) (v := x3) (pm_q0_19 (Nat.le_of_ble_eq_true rfl)) (hh 0 (Nat.le_of_ble_eq_true rfl)) (Nat.le_of_ble_eq_true rfl) rfl hx3 rfl ?_
    refine pm_R_cv pm_M0 (pc' := 1574) (a := 41) (ra := [.int x3, .int x2, .int x1]) (rest := [.int (-2)]) (ls' := [.ref 41, .int x1, .int x2, .int x3]) (pm_q0_19 (Nat.le_of_ble_eq_true rfl)) rfl (Or.inl rfl) pm_M271 (hh 41 (Nat.le_of_ble_eq_true rfl)) rfl (Nat.le_of_ble_eq_true rfl) (Nat.le_of_ble_eq_true rfl) rfl rfl (Nat.le_of_ble_eq_true rfl) rfl rfl ?_
    refine pm_R_lo pm_M271 (pc' := 1) rfl rfl rfl ?_
    refine pm_R_op pm_M271 (pc' := 2) (st' := [.int 0, .ref 41]) rfl rfl rfl ?_
    refine pm_R_put pm_M271 (pc' := 5) (fs' := [.int 0, .ref 42, .ref 43, .ref 44, .ref 45, .ref 46, .ref 47, .ref 48, .ref 49, .ref 50, .int 0, .int 0, .int 0, .int 0, .int 0, .long 0, .int 0, .int 0, .int 0, .ref 51, .ref 52, .int 0, .int 0, .int 0, .int 0, .ref 53, .int 0, .int 0, .ref 54, .ref 55, .ref 56, .int 0, .ref 57, .ref 58, .ref 59, .ref 60, .ref 61, .ref 62, .ref 63, .ref 64, .ref 65, .ref 66, .int 0, .int 0, .int 0, .ref 67, .ref 68, .int 0, .ref 69, .int 0, .int 0, .ref 70, .ref 71]) rfl rfl rfl (hh 41 (Nat.le_of_ble_eq_true rfl)) (Nat.le_of_ble_eq_true rfl) (Nat.le_of_ble_eq_true rfl) (Nat.le_of_ble_eq_true rfl) rfl (Or.inl rfl) rfl rfl ?_
    refine pm_R_lo pm_M271 (pc' := 6) rfl rfl rfl ?_
    refine pm_R_op pm_M271 (pc' := 7) (st' := [.int 3, .ref 41]) rfl rfl rfl ?_
    refine pm_R_lo pm_M271 (pc' := 8) rfl rfl rfl ?_
    refine pm_R_cv pm_M271 (pc' := 11) (a := 41) (ra := [.int x1, .int 3]) (rest := []) (ls' := [.ref 41, .int 3, .int x1]) rfl rfl (Or.inl rfl) pm_M177 rfl rfl (Nat.le_of_ble_eq_true rfl) (Nat.le_of_ble_eq_true rfl) rfl rfl (Nat.le_of_ble_eq_true rfl) rfl rfl ?_
    refine pm_R_lo pm_M177 (pc' := 1) rfl rfl rfl ?_
    refine pm_R_op pm_M177 (pc' := 2) (st' := [.int 0, .int x1]) rfl rfl rfl ?_
    refine pm_R_lo pm_M177 (pc' := 3) rfl rfl rfl ?_
    refine pm_R_get pm_M177 (pc' := 6) (v := .ref 46) rfl rfl rfl (Nat.le_of_ble_eq_true rfl) (Nat.le_of_ble_eq_true rfl) rfl rfl ?_
    refine pm_R_lo pm_M177 (pc' := 7) rfl rfl rfl ?_
    refine pm_R_iald pm_M177 (pc' := 8) (v := 0) rfl (hh 46 (Nat.le_of_ble_eq_true rfl)) (Nat.le_of_ble_eq_true rfl) rfl rfl rfl ?_
    refine pm_R_op pm_M177 (pc' := 9) (st' := [.int 1, .int 0, .int 0, .int x1]) rfl rfl rfl ?_
    refine pm_R_op pm_M177 (pc' := 10) (st' := [.int (-1), .int 0, .int x1]) rfl rfl rfl ?_
    refine pm_R_cs pm_M177 (pc' := 13) (ra := [.int (-1), .int 0, .int x1]) (rest := []) (ls' := [.int x1, .int 0, .int (-1)]) rfl rfl (Or.inl rfl) pm_M174 rfl rfl (Nat.le_of_ble_eq_true rfl) rfl rfl ?_
    refine pm_R_lo pm_M174 (pc' := 1) rfl rfl rfl ?_
    refine pm_R_lo pm_M174 (pc' := 2) rfl rfl rfl ?_
    refine pm_R_icmp pm_M174 (t := 14) (pc' := 5) rfl rfl rfl (fun c_2 => ?_) (fun c_2 => by exact absurd c_1 c_2)
    refine pm_R_op pm_M174 (pc' := 15) (st' := [.int 0]) rfl rfl rfl ?_
    refine pm_R_ret pm_M174 (r := some (.int 0)) rfl rfl ?_
    show pm_R _ 177 13 [.ref 41, .int 3, .int x1] [.int 0] _ _
    refine pm_R_ret pm_M177 (r := some (.int 0)) rfl rfl ?_
    show pm_R _ 271 11 [.ref 41, .int x1, .int x2, .int x3] [.int 0] _ _
    refine pm_R_br pm_M271 (pc' := 14) (st' := []) rfl rfl ?_
    refine pm_R_op pm_M271 (pc' := 16) (st' := [.int (-2)]) rfl rfl rfl ?_
    refine pm_R_ret pm_M271 (r := some (.int (-2))) rfl rfl ?_
    show pm_R _ 0 1574 [.ref 0, .ref 16, .ref 41, .int 0] [.int (-2), .int (-2)] _ _
    refine pm_R_br pm_M0 (pc' := 2121) (st' := []) (pm_q0_19 (Nat.le_of_ble_eq_true rfl)) rfl ?_
    exact p1_tail (hh 0 (Nat.le_of_ble_eq_true rfl)) (Nat.le_of_ble_eq_true rfl) (Nat.le_of_ble_eq_true rfl) (Nat.le_of_ble_eq_true rfl)
  · refine pm_R_lo pm_M163 (pc' := 5) rfl rfl rfl ?_
    refine pm_R_lo pm_M163 (pc' := 6) rfl rfl rfl ?_
    refine pm_R_get pm_M163 (pc' := 9) (v := .ref 17) rfl rfl (hh 16 (Nat.le_of_ble_eq_true rfl)) (Nat.le_of_ble_eq_true rfl) (Nat.le_of_ble_eq_true rfl) rfl rfl ?_
    refine pm_R_get pm_M163 (pc' := 12) (v := .ref 23) rfl rfl (hh 17 (Nat.le_of_ble_eq_true rfl)) (Nat.le_of_ble_eq_true rfl) (Nat.le_of_ble_eq_true rfl) rfl rfl ?_
    refine pm_R_op pm_M163 (pc' := 13) (st' := [.int 3, .ref 23, .int x1]) rfl rfl rfl ?_
    refine pm_R_iald pm_M163 (pc' := 14) (v := 0) rfl (hh 23 (Nat.le_of_ble_eq_true rfl)) (Nat.le_of_ble_eq_true rfl) rfl rfl rfl ?_
    refine pm_R_icmp pm_M163 (t := 21) (pc' := 17) rfl rfl rfl (fun c_3 => by exact absurd c_3 c_1) (fun c_3 => ?_)
    refine pm_R_op pm_M163 (pc' := 18) (st' := [.null]) rfl rfl rfl ?_
    refine pm_R_br pm_M163 (pc' := 30) rfl rfl ?_
    refine pm_R_ret pm_M163 (r := some (.null)) rfl rfl ?_
    show pm_R _ 162 5 [.ref 16, .int x1, .int x2, .int x3, pm_no] [.null] _ _
    refine pm_R_lo pm_M162 (pc' := 7) (ls' := [.ref 16, .int x1, .int x2, .int x3, .null]) (st' := []) rfl rfl rfl ?_
    refine pm_R_lo pm_M162 (pc' := 9) rfl rfl rfl ?_
    refine pm_R_br pm_M162 (pc' := 21) rfl rfl ?_
    refine pm_R_op pm_M162 (pc' := 23) (st' := [.int (-2)]) rfl rfl rfl ?_
    refine pm_R_ret pm_M162 (r := some (.int (-2))) rfl rfl ?_
    show pm_R _ 0 1555 [.ref 0, .ref 16, .ref 41, .int 0] [.int (-2)] _ _
    refine pm_R_lo pm_M0 (pc' := 1556) (pm_q0_19 (Nat.le_of_ble_eq_true rfl)) rfl rfl ?_
    refine pm_R_lo pm_M0 (pc' := 1557) (pm_q0_19 (Nat.le_of_ble_eq_true rfl)) rfl rfl ?_
    refine pm_R_lo pm_M0 (pc' := 1558) (pm_q0_19 (Nat.le_of_ble_eq_true rfl)) rfl rfl ?_
    refine pm_R_op pm_M0 (pc' := 1559) (st' := [.int 1, .int 0, .ref 0, .ref 41, .int (-2)]) (pm_q0_19 (Nat.le_of_ble_eq_true rfl)) rfl rfl ?_
    refine pm_R_op pm_M0 (pc' := 1560) (st' := [.int 1, .ref 0, .ref 41, .int (-2)]) (pm_q0_19 (Nat.le_of_ble_eq_true rfl)) rfl rfl ?_
    refine pm_R_iald pm_M0 (pc' := 1561) (v := x1) (pm_q0_19 (Nat.le_of_ble_eq_true rfl)) (hh 0 (Nat.le_of_ble_eq_true rfl)) (Nat.le_of_ble_eq_true rfl) rfl hx1 rfl ?_
    refine pm_R_lo pm_M0 (pc' := 1562) (pm_q0_19 (Nat.le_of_ble_eq_true rfl)) rfl rfl ?_
    refine pm_R_lo pm_M0 (pc' := 1563) (pm_q0_19 (Nat.le_of_ble_eq_true rfl)) rfl rfl ?_
    refine pm_R_op pm_M0 (pc' := 1564) (st' := [.int 2, .int 0, .ref 0, .int x1, .ref 41, .int (-2)]) (pm_q0_19 (Nat.le_of_ble_eq_true rfl)) rfl rfl ?_
    refine pm_R_op pm_M0 (pc' := 1565) (st' := [.int 2, .ref 0, .int x1, .ref 41, .int (-2)]) (pm_q0_19 (Nat.le_of_ble_eq_true rfl)) rfl rfl ?_
    refine pm_R_iald pm_M0 (pc' := 1566) (v := x2) (pm_q0_19 (Nat.le_of_ble_eq_true rfl)) (hh 0 (Nat.le_of_ble_eq_true rfl)) (Nat.le_of_ble_eq_true rfl) rfl hx2 rfl ?_
    refine pm_R_lo pm_M0 (pc' := 1567) (pm_q0_19 (Nat.le_of_ble_eq_true rfl)) rfl rfl ?_
    refine pm_R_lo pm_M0 (pc' := 1568) (pm_q0_19 (Nat.le_of_ble_eq_true rfl)) rfl rfl ?_
    refine pm_R_op pm_M0 (pc' := 1569) (st' := [.int 3, .int 0, .ref 0, .int x2, .int x1, .ref 41, .int (-2)]) (pm_q0_19 (Nat.le_of_ble_eq_true rfl)) rfl rfl ?_
    refine pm_R_op pm_M0 (pc' := 1570) (st' := [.int 3, .ref 0, .int x2, .int x1, .ref 41, .int (-2)]) (pm_q0_19 (Nat.le_of_ble_eq_true rfl)) rfl rfl ?_
    refine pm_R_iald pm_M0 (pc' := 1571) (v := x3) (pm_q0_19 (Nat.le_of_ble_eq_true rfl)) (hh 0 (Nat.le_of_ble_eq_true rfl)) (Nat.le_of_ble_eq_true rfl) rfl hx3 rfl ?_
    refine pm_R_cv pm_M0 (pc' := 1574) (a := 41) (ra := [.int x3, .int x2, .int x1]) (rest := [.int (-2)]) (ls' := [.ref 41, .int x1, .int x2, .int x3]) (pm_q0_19 (Nat.le_of_ble_eq_true rfl)) rfl (Or.inl rfl) pm_M271 (hh 41 (Nat.le_of_ble_eq_true rfl)) rfl (Nat.le_of_ble_eq_true rfl) (Nat.le_of_ble_eq_true rfl) rfl rfl (Nat.le_of_ble_eq_true rfl) rfl rfl ?_
    refine pm_R_lo pm_M271 (pc' := 1) rfl rfl rfl ?_
    refine pm_R_op pm_M271 (pc' := 2) (st' := [.int 0, .ref 41]) rfl rfl rfl ?_
    refine pm_R_put pm_M271 (pc' := 5) (fs' := [.int 0, .ref 42, .ref 43, .ref 44, .ref 45, .ref 46, .ref 47, .ref 48, .ref 49, .ref 50, .int 0, .int 0, .int 0, .int 0, .int 0, .long 0, .int 0, .int 0, .int 0, .ref 51, .ref 52, .int 0, .int 0, .int 0, .int 0, .ref 53, .int 0, .int 0, .ref 54, .ref 55, .ref 56, .int 0, .ref 57, .ref 58, .ref 59, .ref 60, .ref 61, .ref 62, .ref 63, .ref 64, .ref 65, .ref 66, .int 0, .int 0, .int 0, .ref 67, .ref 68, .int 0, .ref 69, .int 0, .int 0, .ref 70, .ref 71]) rfl rfl rfl (hh 41 (Nat.le_of_ble_eq_true rfl)) (Nat.le_of_ble_eq_true rfl) (Nat.le_of_ble_eq_true rfl) (Nat.le_of_ble_eq_true rfl) rfl (Or.inl rfl) rfl rfl ?_
    refine pm_R_lo pm_M271 (pc' := 6) rfl rfl rfl ?_
    refine pm_R_op pm_M271 (pc' := 7) (st' := [.int 3, .ref 41]) rfl rfl rfl ?_
    refine pm_R_lo pm_M271 (pc' := 8) rfl rfl rfl ?_
    refine pm_R_cv pm_M271 (pc' := 11) (a := 41) (ra := [.int x1, .int 3]) (rest := []) (ls' := [.ref 41, .int 3, .int x1]) rfl rfl (Or.inl rfl) pm_M177 rfl rfl (Nat.le_of_ble_eq_true rfl) (Nat.le_of_ble_eq_true rfl) rfl rfl (Nat.le_of_ble_eq_true rfl) rfl rfl ?_
    refine pm_R_lo pm_M177 (pc' := 1) rfl rfl rfl ?_
    refine pm_R_op pm_M177 (pc' := 2) (st' := [.int 0, .int x1]) rfl rfl rfl ?_
    refine pm_R_lo pm_M177 (pc' := 3) rfl rfl rfl ?_
    refine pm_R_get pm_M177 (pc' := 6) (v := .ref 46) rfl rfl rfl (Nat.le_of_ble_eq_true rfl) (Nat.le_of_ble_eq_true rfl) rfl rfl ?_
    refine pm_R_lo pm_M177 (pc' := 7) rfl rfl rfl ?_
    refine pm_R_iald pm_M177 (pc' := 8) (v := 0) rfl (hh 46 (Nat.le_of_ble_eq_true rfl)) (Nat.le_of_ble_eq_true rfl) rfl rfl rfl ?_
    refine pm_R_op pm_M177 (pc' := 9) (st' := [.int 1, .int 0, .int 0, .int x1]) rfl rfl rfl ?_
    refine pm_R_op pm_M177 (pc' := 10) (st' := [.int (-1), .int 0, .int x1]) rfl rfl rfl ?_
    refine pm_R_cs pm_M177 (pc' := 13) (ra := [.int (-1), .int 0, .int x1]) (rest := []) (ls' := [.int x1, .int 0, .int (-1)]) rfl rfl (Or.inl rfl) pm_M174 rfl rfl (Nat.le_of_ble_eq_true rfl) rfl rfl ?_
    refine pm_R_lo pm_M174 (pc' := 1) rfl rfl rfl ?_
    refine pm_R_lo pm_M174 (pc' := 2) rfl rfl rfl ?_
    refine pm_R_icmp pm_M174 (t := 14) (pc' := 5) rfl rfl rfl (fun c_4 => by exact absurd c_4 c_1) (fun c_4 => ?_)
    refine pm_R_lo pm_M174 (pc' := 6) rfl rfl rfl ?_
    refine pm_R_lo pm_M174 (pc' := 7) rfl rfl rfl ?_
    refine pm_R_icmp pm_M174 (t := 14) (pc' := 10) rfl rfl rfl (fun c_5 => ?_) (fun c_5 => by have z0 : ((-1) : Int32).toInt = -1 := (by decide); have z1 : ((0) : Int32).toInt = 0 := (by decide); have q0 := (Int32.le_iff_toInt_le.mp (Int32.not_lt.mp c_1)); have q1 := (Int32.le_iff_toInt_le.mp (Int32.not_lt.mp c_5)); exfalso; omega)
    refine pm_R_op pm_M174 (pc' := 15) (st' := [.int 0]) rfl rfl rfl ?_
    refine pm_R_ret pm_M174 (r := some (.int 0)) rfl rfl ?_
    show pm_R _ 177 13 [.ref 41, .int 3, .int x1] [.int 0] _ _
    refine pm_R_ret pm_M177 (r := some (.int 0)) rfl rfl ?_
    show pm_R _ 271 11 [.ref 41, .int x1, .int x2, .int x3] [.int 0] _ _
    refine pm_R_br pm_M271 (pc' := 14) (st' := []) rfl rfl ?_
    refine pm_R_op pm_M271 (pc' := 16) (st' := [.int (-2)]) rfl rfl rfl ?_
    refine pm_R_ret pm_M271 (r := some (.int (-2))) rfl rfl ?_
    show pm_R _ 0 1574 [.ref 0, .ref 16, .ref 41, .int 0] [.int (-2), .int (-2)] _ _
    refine pm_R_br pm_M0 (pc' := 2121) (st' := []) (pm_q0_19 (Nat.le_of_ble_eq_true rfl)) rfl ?_
    exact p1_tail (hh 0 (Nat.le_of_ble_eq_true rfl)) (Nat.le_of_ble_eq_true rfl) (Nat.le_of_ble_eq_true rfl) (Nat.le_of_ble_eq_true rfl)
set_option maxRecDepth 100000 in
set_option maxHeartbeats 40000000 in
theorem p1_c30 (xs : Nat → Int32) (f : Nat → pm_E) (hh : ∀ i, i < 72 → f i = pm_fF 7 xs i) (x0 x1 x2 x3 x4 x5 x6 : Int32) (hx0 : xs 0 = x0) (hx1 : xs 1 = x1) (hx2 : xs 2 = x2) (hx3 : xs 3 = x3) (hx4 : xs 4 = x4) (hx5 : xs 5 = x5) (hx6 : xs 6 = x6) : pm_R 100 0 1579 [.ref 0, .ref 16, .ref 41, .int 0] [] (72, 52657, f) p1_Q := by
  refine pm_R_lo pm_M0 (pc' := 1580) (pm_q0_19 (Nat.le_of_ble_eq_true rfl)) rfl rfl ?_
  refine pm_R_lo pm_M0 (pc' := 1581) (pm_q0_19 (Nat.le_of_ble_eq_true rfl)) rfl rfl ?_
  refine pm_R_lo pm_M0 (pc' := 1582) (pm_q0_19 (Nat.le_of_ble_eq_true rfl)) rfl rfl ?_
  refine pm_R_op pm_M0 (pc' := 1583) (st' := [.int 1, .int 0, .ref 0, .ref 16]) (pm_q0_19 (Nat.le_of_ble_eq_true rfl)) rfl rfl ?_
  refine pm_R_op pm_M0 (pc' := 1584) (st' := [.int 1, .ref 0, .ref 16]) (pm_q0_19 (Nat.le_of_ble_eq_true rfl)) rfl rfl ?_
  refine pm_R_iald pm_M0 (pc' := 1585) (v := x1) (pm_q0_19 (Nat.le_of_ble_eq_true rfl)) (hh 0 (Nat.le_of_ble_eq_true rfl)) (Nat.le_of_ble_eq_true rfl) rfl hx1 rfl ?_
  refine pm_R_lo pm_M0 (pc' := 1586) (pm_q0_19 (Nat.le_of_ble_eq_true rfl)) rfl rfl ?_
  refine pm_R_lo pm_M0 (pc' := 1587) (pm_q0_19 (Nat.le_of_ble_eq_true rfl)) rfl rfl ?_
  refine pm_R_op pm_M0 (pc' := 1588) (st' := [.int 2, .int 0, .ref 0, .int x1, .ref 16]) (pm_q0_19 (Nat.le_of_ble_eq_true rfl)) rfl rfl ?_
  refine pm_R_op pm_M0 (pc' := 1589) (st' := [.int 2, .ref 0, .int x1, .ref 16]) (pm_q0_19 (Nat.le_of_ble_eq_true rfl)) rfl rfl ?_
  refine pm_R_iald pm_M0 (pc' := 1590) (v := x2) (pm_q0_19 (Nat.le_of_ble_eq_true rfl)) (hh 0 (Nat.le_of_ble_eq_true rfl)) (Nat.le_of_ble_eq_true rfl) rfl hx2 rfl ?_
  refine pm_R_lo pm_M0 (pc' := 1591) (pm_q0_19 (Nat.le_of_ble_eq_true rfl)) rfl rfl ?_
  refine pm_R_lo pm_M0 (pc' := 1592) (pm_q0_19 (Nat.le_of_ble_eq_true rfl)) rfl rfl ?_
  refine pm_R_op pm_M0 (pc' := 1593) (st' := [.int 3, .int 0, .ref 0, .int x2, .int x1, .ref 16]) (pm_q0_20 (Nat.le_of_ble_eq_true rfl)) rfl rfl ?_
  refine pm_R_op pm_M0 (pc' := 1594) (st' := [.int 3, .ref 0, .int x2, .int x1, .ref 16]) (pm_q0_20 (Nat.le_of_ble_eq_true rfl)) rfl rfl ?_
  refine pm_R_iald pm_M0 (pc' := 1595) (v := x3) (pm_q0_20 (Nat.le_of_ble_eq_true rfl)) (hh 0 (Nat.le_of_ble_eq_true rfl)) (Nat.le_of_ble_eq_true rfl) rfl hx3 rfl ?_
  refine pm_R_cv pm_M0 (pc' := 1598) (a := 16) (ra := [.int x3, .int x2, .int x1]) (rest := []) (ls' := [.ref 16, .int x1, .int x2, .int x3, pm_no, pm_no, pm_no]) (pm_q0_20 (Nat.le_of_ble_eq_true rfl)) rfl (Or.inl rfl) pm_M164 (hh 16 (Nat.le_of_ble_eq_true rfl)) rfl (Nat.le_of_ble_eq_true rfl) (Nat.le_of_ble_eq_true rfl) rfl rfl (Nat.le_of_ble_eq_true rfl) rfl rfl ?_
  refine pm_R_lo pm_M164 (pc' := 1) rfl rfl rfl ?_
  refine pm_R_lo pm_M164 (pc' := 2) rfl rfl rfl ?_
  refine pm_R_cv pm_M164 (pc' := 5) (a := 16) (ra := [.int x1]) (rest := []) (ls' := [.ref 16, .int x1]) rfl rfl (Or.inl rfl) pm_M163 (hh 16 (Nat.le_of_ble_eq_true rfl)) rfl (Nat.le_of_ble_eq_true rfl) (Nat.le_of_ble_eq_true rfl) rfl rfl (Nat.le_of_ble_eq_true rfl) rfl rfl ?_
  refine pm_R_lo pm_M163 (pc' := 1) rfl rfl rfl ?_
  refine pm_R_ifc pm_M163 (t := 17) (pc' := 4) rfl rfl rfl (fun c_1 => ?_) (fun c_1 => ?_)
  · refine pm_R_op pm_M163 (pc' := 18) (st' := [.null]) rfl rfl rfl ?_
    refine pm_R_br pm_M163 (pc' := 30) rfl rfl ?_
    refine pm_R_ret pm_M163 (r := some (.null)) rfl rfl ?_
    show pm_R _ 164 5 [.ref 16, .int x1, .int x2, .int x3, pm_no, pm_no, pm_no] [.null] _ _
    refine pm_R_lo pm_M164 (pc' := 7) (ls' := [.ref 16, .int x1, .int x2, .int x3, .null, pm_no, pm_no]) (st' := []) rfl rfl rfl ?_
    refine pm_R_lo pm_M164 (pc' := 8) rfl rfl rfl ?_
    refine pm_R_lo pm_M164 (pc' := 9) rfl rfl rfl ?_
    refine pm_R_cv pm_M164 (pc' := 12) (a := 16) (ra := [.int x2]) (rest := []) (ls' := [.ref 16, .int x2]) rfl rfl (Or.inl rfl) pm_M139 (hh 16 (Nat.le_of_ble_eq_true rfl)) rfl (Nat.le_of_ble_eq_true rfl) (Nat.le_of_ble_eq_true rfl) rfl rfl (Nat.le_of_ble_eq_true rfl) rfl rfl ?_
    refine pm_R_lo pm_M139 (pc' := 1) rfl rfl rfl ?_
    refine pm_R_ifc pm_M139 (t := 17) (pc' := 4) rfl rfl rfl (fun c_2 => ?_) (fun c_2 => ?_)
    · refine pm_R_op pm_M139 (pc' := 18) (st' := [.null]) rfl rfl rfl ?_
      refine pm_R_br pm_M139 (pc' := 30) rfl rfl ?_
      refine pm_R_ret pm_M139 (r := some (.null)) rfl rfl ?_
      show pm_R _ 164 12 [.ref 16, .int x1, .int x2, .int x3, .null, pm_no, pm_no] [.null] _ _
      refine pm_R_lo pm_M164 (pc' := 14) (ls' := [.ref 16, .int x1, .int x2, .int x3, .null, .null, pm_no]) (st' := []) rfl rfl rfl ?_
      refine pm_R_lo pm_M164 (pc' := 16) rfl rfl rfl ?_
      refine pm_R_br pm_M164 (pc' := 33) rfl rfl ?_
      refine pm_R_op pm_M164 (pc' := 34) (st' := [.int (-1)]) rfl rfl rfl ?_
      refine pm_R_ret pm_M164 (r := some (.int (-1))) rfl rfl ?_
      show pm_R _ 0 1598 [.ref 0, .ref 16, .ref 41, .int 0] [.int (-1)] _ _
      refine pm_R_lo pm_M0 (pc' := 1599) (pm_q0_20 (Nat.le_of_ble_eq_true rfl)) rfl rfl ?_
      refine pm_R_lo pm_M0 (pc' := 1600) (pm_q0_20 (Nat.le_of_ble_eq_true rfl)) rfl rfl ?_
      refine pm_R_lo pm_M0 (pc' := 1601) (pm_q0_20 (Nat.le_of_ble_eq_true rfl)) rfl rfl ?_
      refine pm_R_op pm_M0 (pc' := 1602) (st' := [.int 1, .int 0, .ref 0, .ref 41, .int (-1)]) (pm_q0_20 (Nat.le_of_ble_eq_true rfl)) rfl rfl ?_
      refine pm_R_op pm_M0 (pc' := 1603) (st' := [.int 1, .ref 0, .ref 41, .int (-1)]) (pm_q0_20 (Nat.le_of_ble_eq_true rfl)) rfl rfl ?_
      refine pm_R_iald pm_M0 (pc' := 1604) (v := x1) (pm_q0_20 (Nat.le_of_ble_eq_true rfl)) (hh 0 (Nat.le_of_ble_eq_true rfl)) (Nat.le_of_ble_eq_true rfl) rfl hx1 rfl ?_
      refine pm_R_lo pm_M0 (pc' := 1605) (pm_q0_20 (Nat.le_of_ble_eq_true rfl)) rfl rfl ?_
      refine pm_R_lo pm_M0 (pc' := 1606) (pm_q0_20 (Nat.le_of_ble_eq_true rfl)) rfl rfl ?_
      refine pm_R_op pm_M0 (pc' := 1607) (st' := [.int 2, .int 0, .ref 0, .int x1, .ref 41, .int (-1)]) (pm_q0_20 (Nat.le_of_ble_eq_true rfl)) rfl rfl ?_
      refine pm_R_op pm_M0 (pc' := 1608) (st' := [.int 2, .ref 0, .int x1, .ref 41, .int (-1)]) (pm_q0_20 (Nat.le_of_ble_eq_true rfl)) rfl rfl ?_
      refine pm_R_iald pm_M0 (pc' := 1609) (v := x2) (pm_q0_20 (Nat.le_of_ble_eq_true rfl)) (hh 0 (Nat.le_of_ble_eq_true rfl)) (Nat.le_of_ble_eq_true rfl) rfl hx2 rfl ?_
      refine pm_R_lo pm_M0 (pc' := 1610) (pm_q0_20 (Nat.le_of_ble_eq_true rfl)) rfl rfl ?_
      refine pm_R_lo pm_M0 (pc' := 1611) (pm_q0_20 (Nat.le_of_ble_eq_true rfl)) rfl rfl ?_
      refine pm_R_op pm_M0 (pc' := 1612) (st' := [.int 3, .int 0, .ref 0, .int x2, .int x1, .ref 41, .int (-1)]) (pm_q0_20 (Nat.le_of_ble_eq_true rfl)) rfl rfl ?_
      refine pm_R_op pm_M0 (pc' := 1613) (st' := [.int 3, .ref 0, .int x2, .int x1, .ref 41, .int (-1)]) (pm_q0_20 (Nat.le_of_ble_eq_true rfl)) rfl rfl ?_
      refine pm_R_iald pm_M0 (pc' := 1614) (v := x3) (pm_q0_20 (Nat.le_of_ble_eq_true rfl)) (hh 0 (Nat.le_of_ble_eq_true rfl)) (Nat.le_of_ble_eq_true rfl) rfl hx3 rfl ?_
      refine pm_R_cv pm_M0 (pc' := 1617) (a := 41) (ra := [.int x3, .int x2, .int x1]) (rest := [.int (-1)]) (ls' := [.ref 41, .int x1, .int x2, .int x3, pm_no, pm_no]) (pm_q0_20 (Nat.le_of_ble_eq_true rfl)) rfl (Or.inl rfl) pm_M274 (hh 41 (Nat.le_of_ble_eq_true rfl)) rfl (Nat.le_of_ble_eq_true rfl) (Nat.le_of_ble_eq_true rfl) rfl rfl (Nat.le_of_ble_eq_true rfl) rfl rfl ?_
      refine pm_R_lo pm_M274 (pc' := 1) rfl rfl rfl ?_
      refine pm_R_op pm_M274 (pc' := 2) (st' := [.int 0, .ref 41]) rfl rfl rfl ?_
      refine pm_R_put pm_M274 (pc' := 5) (fs' := [.int 0, .ref 42, .ref 43, .ref 44, .ref 45, .ref 46, .ref 47, .ref 48, .ref 49, .ref 50, .int 0, .int 0, .int 0, .int 0, .int 0, .long 0, .int 0, .int 0, .int 0, .ref 51, .ref 52, .int 0, .int 0, .int 0, .int 0, .ref 53, .int 0, .int 0, .ref 54, .ref 55, .ref 56, .int 0, .ref 57, .ref 58, .ref 59, .ref 60, .ref 61, .ref 62, .ref 63, .ref 64, .ref 65, .ref 66, .int 0, .int 0, .int 0, .ref 67, .ref 68, .int 0, .ref 69, .int 0, .int 0, .ref 70, .ref 71]) rfl rfl rfl (hh 41 (Nat.le_of_ble_eq_true rfl)) (Nat.le_of_ble_eq_true rfl) (Nat.le_of_ble_eq_true rfl) (Nat.le_of_ble_eq_true rfl) rfl (Or.inl rfl) rfl rfl ?_
      refine pm_R_lo pm_M274 (pc' := 6) rfl rfl rfl ?_
      refine pm_R_lo pm_M274 (pc' := 7) rfl rfl rfl ?_
      refine pm_R_lo pm_M274 (pc' := 8) rfl rfl rfl ?_
      refine pm_R_cv pm_M274 (pc' := 11) (a := 41) (ra := [.int x2, .int x1]) (rest := []) (ls' := [.ref 41, .int x1, .int x2]) rfl rfl (Or.inl rfl) pm_M275 rfl rfl (Nat.le_of_ble_eq_true rfl) (Nat.le_of_ble_eq_true rfl) rfl rfl (Nat.le_of_ble_eq_true rfl) rfl rfl ?_
      refine pm_R_lo pm_M275 (pc' := 1) rfl rfl rfl ?_
      refine pm_R_op pm_M275 (pc' := 2) (st' := [.int 3, .ref 41]) rfl rfl rfl ?_
      refine pm_R_lo pm_M275 (pc' := 3) rfl rfl rfl ?_
      refine pm_R_cv pm_M275 (pc' := 6) (a := 41) (ra := [.int x1, .int 3]) (rest := []) (ls' := [.ref 41, .int 3, .int x1]) rfl rfl (Or.inl rfl) pm_M177 rfl rfl (Nat.le_of_ble_eq_true rfl) (Nat.le_of_ble_eq_true rfl) rfl rfl (Nat.le_of_ble_eq_true rfl) rfl rfl ?_
      refine pm_R_lo pm_M177 (pc' := 1) rfl rfl rfl ?_
      refine pm_R_op pm_M177 (pc' := 2) (st' := [.int 0, .int x1]) rfl rfl rfl ?_
      refine pm_R_lo pm_M177 (pc' := 3) rfl rfl rfl ?_
      refine pm_R_get pm_M177 (pc' := 6) (v := .ref 46) rfl rfl rfl (Nat.le_of_ble_eq_true rfl) (Nat.le_of_ble_eq_true rfl) rfl rfl ?_
      refine pm_R_lo pm_M177 (pc' := 7) rfl rfl rfl ?_
      refine pm_R_iald pm_M177 (pc' := 8) (v := 0) rfl (hh 46 (Nat.le_of_ble_eq_true rfl)) (Nat.le_of_ble_eq_true rfl) rfl rfl rfl ?_
      refine pm_R_op pm_M177 (pc' := 9) (st' := [.int 1, .int 0, .int 0, .int x1]) rfl rfl rfl ?_
      refine pm_R_op pm_M177 (pc' := 10) (st' := [.int (-1), .int 0, .int x1]) rfl rfl rfl ?_
      refine pm_R_cs pm_M177 (pc' := 13) (ra := [.int (-1), .int 0, .int x1]) (rest := []) (ls' := [.int x1, .int 0, .int (-1)]) rfl rfl (Or.inl rfl) pm_M174 rfl rfl (Nat.le_of_ble_eq_true rfl) rfl rfl ?_
      refine pm_R_lo pm_M174 (pc' := 1) rfl rfl rfl ?_
      refine pm_R_lo pm_M174 (pc' := 2) rfl rfl rfl ?_
      refine pm_R_icmp pm_M174 (t := 14) (pc' := 5) rfl rfl rfl (fun c_3 => ?_) (fun c_3 => by exact absurd c_1 c_3)
      refine pm_R_op pm_M174 (pc' := 15) (st' := [.int 0]) rfl rfl rfl ?_
      refine pm_R_ret pm_M174 (r := some (.int 0)) rfl rfl ?_
      show pm_R _ 177 13 [.ref 41, .int 3, .int x1] [.int 0] _ _
      refine pm_R_ret pm_M177 (r := some (.int 0)) rfl rfl ?_
      show pm_R _ 275 6 [.ref 41, .int x1, .int x2] [.int 0] _ _
      refine pm_R_br pm_M275 (pc' := 17) (st' := []) rfl rfl ?_
      refine pm_R_op pm_M275 (pc' := 18) (st' := [.int 0]) rfl rfl rfl ?_
      refine pm_R_ret pm_M275 (r := some (.int 0)) rfl rfl ?_
      show pm_R _ 274 11 [.ref 41, .int x1, .int x2, .int x3, pm_no, pm_no] [.int 0] _ _
      refine pm_R_br pm_M274 (pc' := 23) (st' := []) rfl rfl ?_
      refine pm_R_op pm_M274 (pc' := 24) (st' := [.int (-1)]) rfl rfl rfl ?_
      refine pm_R_ret pm_M274 (r := some (.int (-1))) rfl rfl ?_
      show pm_R _ 0 1617 [.ref 0, .ref 16, .ref 41, .int 0] [.int (-1), .int (-1)] _ _
      refine pm_R_br pm_M0 (pc' := 2121) (st' := []) (pm_q0_20 (Nat.le_of_ble_eq_true rfl)) rfl ?_
      exact p1_tail (hh 0 (Nat.le_of_ble_eq_true rfl)) (Nat.le_of_ble_eq_true rfl) (Nat.le_of_ble_eq_true rfl) (Nat.le_of_ble_eq_true rfl)
    · refine pm_R_lo pm_M139 (pc' := 5) rfl rfl rfl ?_
      refine pm_R_lo pm_M139 (pc' := 6) rfl rfl rfl ?_
      refine pm_R_get pm_M139 (pc' := 9) (v := .ref 17) rfl rfl (hh 16 (Nat.le_of_ble_eq_true rfl)) (Nat.le_of_ble_eq_true rfl) (Nat.le_of_ble_eq_true rfl) rfl rfl ?_
      refine pm_R_get pm_M139 (pc' := 12) (v := .ref 23) rfl rfl (hh 17 (Nat.le_of_ble_eq_true rfl)) (Nat.le_of_ble_eq_true rfl) (Nat.le_of_ble_eq_true rfl) rfl rfl ?_
      refine pm_R_op pm_M139 (pc' := 13) (st' := [.int 2, .ref 23, .int x2]) rfl rfl rfl ?_
      refine pm_R_iald pm_M139 (pc' := 14) (v := 0) rfl (hh 23 (Nat.le_of_ble_eq_true rfl)) (Nat.le_of_ble_eq_true rfl) rfl rfl rfl ?_
      refine pm_R_icmp pm_M139 (t := 21) (pc' := 17) rfl rfl rfl (fun c_4 => by exact absurd c_4 c_2) (fun c_4 => ?_)
      refine pm_R_op pm_M139 (pc' := 18) (st' := [.null]) rfl rfl rfl ?_
      refine pm_R_br pm_M139 (pc' := 30) rfl rfl ?_
      refine pm_R_ret pm_M139 (r := some (.null)) rfl rfl ?_
      show pm_R _ 164 12 [.ref 16, .int x1, .int x2, .int x3, .null, pm_no, pm_no] [.null] _ _
      refine pm_R_lo pm_M164 (pc' := 14) (ls' := [.ref 16, .int x1, .int x2, .int x3, .null, .null, pm_no]) (st' := []) rfl rfl rfl ?_
      refine pm_R_lo pm_M164 (pc' := 16) rfl rfl rfl ?_
      refine pm_R_br pm_M164 (pc' := 33) rfl rfl ?_
      refine pm_R_op pm_M164 (pc' := 34) (st' := [.int (-1)]) rfl rfl rfl ?_
      refine pm_R_ret pm_M164 (r := some (.int (-1))) rfl rfl ?_
      show pm_R _ 0 1598 [.ref 0, .ref 16, .ref 41, .int 0] [.int (-1)] _ _
      refine pm_R_lo pm_M0 (pc' := 1599) (pm_q0_20 (Nat.le_of_ble_eq_true rfl)) rfl rfl ?_
      refine pm_R_lo pm_M0 (pc' := 1600) (pm_q0_20 (Nat.le_of_ble_eq_true rfl)) rfl rfl ?_
      refine pm_R_lo pm_M0 (pc' := 1601) (pm_q0_20 (Nat.le_of_ble_eq_true rfl)) rfl rfl ?_
      refine pm_R_op pm_M0 (pc' := 1602) (st' := [.int 1, .int 0, .ref 0, .ref 41, .int (-1)]) (pm_q0_20 (Nat.le_of_ble_eq_true rfl)) rfl rfl ?_
      refine pm_R_op pm_M0 (pc' := 1603) (st' := [.int 1, .ref 0, .ref 41, .int (-1)]) (pm_q0_20 (Nat.le_of_ble_eq_true rfl)) rfl rfl ?_
      refine pm_R_iald pm_M0 (pc' := 1604) (v := x1) (pm_q0_20 (Nat.le_of_ble_eq_true rfl)) (hh 0 (Nat.le_of_ble_eq_true rfl)) (Nat.le_of_ble_eq_true rfl) rfl hx1 rfl ?_
      refine pm_R_lo pm_M0 (pc' := 1605) (pm_q0_20 (Nat.le_of_ble_eq_true rfl)) rfl rfl ?_
      refine pm_R_lo pm_M0 (pc' := 1606) (pm_q0_20 (Nat.le_of_ble_eq_true rfl)) rfl rfl ?_
      refine pm_R_op pm_M0 (pc' := 1607) (st' := [.int 2, .int 0, .ref 0, .int x1, .ref 41, .int (-1)]) (pm_q0_20 (Nat.le_of_ble_eq_true rfl)) rfl rfl ?_
      refine pm_R_op pm_M0 (pc' := 1608) (st' := [.int 2, .ref 0, .int x1, .ref 41, .int (-1)]) (pm_q0_20 (Nat.le_of_ble_eq_true rfl)) rfl rfl ?_
      refine pm_R_iald pm_M0 (pc' := 1609) (v := x2) (pm_q0_20 (Nat.le_of_ble_eq_true rfl)) (hh 0 (Nat.le_of_ble_eq_true rfl)) (Nat.le_of_ble_eq_true rfl) rfl hx2 rfl ?_
      refine pm_R_lo pm_M0 (pc' := 1610) (pm_q0_20 (Nat.le_of_ble_eq_true rfl)) rfl rfl ?_
      refine pm_R_lo pm_M0 (pc' := 1611) (pm_q0_20 (Nat.le_of_ble_eq_true rfl)) rfl rfl ?_
      refine pm_R_op pm_M0 (pc' := 1612) (st' := [.int 3, .int 0, .ref 0, .int x2, .int x1, .ref 41, .int (-1)]) (pm_q0_20 (Nat.le_of_ble_eq_true rfl)) rfl rfl ?_
      refine pm_R_op pm_M0 (pc' := 1613) (st' := [.int 3, .ref 0, .int x2, .int x1, .ref 41, .int (-1)]) (pm_q0_20 (Nat.le_of_ble_eq_true rfl)) rfl rfl ?_
      refine pm_R_iald pm_M0 (pc' := 1614) (v := x3) (pm_q0_20 (Nat.le_of_ble_eq_true rfl)) (hh 0 (Nat.le_of_ble_eq_true rfl)) (Nat.le_of_ble_eq_true rfl) rfl hx3 rfl ?_
      refine pm_R_cv pm_M0 (pc' := 1617) (a := 41) (ra := [.int x3, .int x2, .int x1]) (rest := [.int (-1)]) (ls' := [.ref 41, .int x1, .int x2, .int x3, pm_no, pm_no]) (pm_q0_20 (Nat.le_of_ble_eq_true rfl)) rfl (Or.inl rfl) pm_M274 (hh 41 (Nat.le_of_ble_eq_true rfl)) rfl (Nat.le_of_ble_eq_true rfl) (Nat.le_of_ble_eq_true rfl) rfl rfl (Nat.le_of_ble_eq_true rfl) rfl rfl ?_
      refine pm_R_lo pm_M274 (pc' := 1) rfl rfl rfl ?_
      refine pm_R_op pm_M274 (pc' := 2) (st' := [.int 0, .ref 41]) rfl rfl rfl ?_
      refine pm_R_put pm_M274 (pc' := 5) (fs' := [.int 0, .ref 42, .ref 43, .ref 44, .ref 45, .ref 46, .ref 47, .ref 48, .ref 49, .ref 50, .int 0, .int 0, .int 0, .int 0, .int 0, .long 0, .int 0, .int 0, .int 0, .ref 51, .ref 52, .int 0, .int 0, .int 0, .int 0, .ref 53, .int 0, .int 0, .ref 54, .ref 55, .ref 56, .int 0, .ref 57, .ref 58, .ref 59, .ref 60, .ref 61, .ref 62, .ref 63, .ref 64, .ref 65, .ref 66, .int 0, .int 0, .int 0, .ref 67, .ref 68, .int 0, .ref 69, .int 0, .int 0, .ref 70, .ref 71]) rfl rfl rfl (hh 41 (Nat.le_of_ble_eq_true rfl)) (Nat.le_of_ble_eq_true rfl) (Nat.le_of_ble_eq_true rfl) (Nat.le_of_ble_eq_true rfl) rfl (Or.inl rfl) rfl rfl ?_
      refine pm_R_lo pm_M274 (pc' := 6) rfl rfl rfl ?_
      refine pm_R_lo pm_M274 (pc' := 7) rfl rfl rfl ?_
      refine pm_R_lo pm_M274 (pc' := 8) rfl rfl rfl ?_
      refine pm_R_cv pm_M274 (pc' := 11) (a := 41) (ra := [.int x2, .int x1]) (rest := []) (ls' := [.ref 41, .int x1, .int x2]) rfl rfl (Or.inl rfl) pm_M275 rfl rfl (Nat.le_of_ble_eq_true rfl) (Nat.le_of_ble_eq_true rfl) rfl rfl (Nat.le_of_ble_eq_true rfl) rfl rfl ?_
      refine pm_R_lo pm_M275 (pc' := 1) rfl rfl rfl ?_
      refine pm_R_op pm_M275 (pc' := 2) (st' := [.int 3, .ref 41]) rfl rfl rfl ?_
      refine pm_R_lo pm_M275 (pc' := 3) rfl rfl rfl ?_
      refine pm_R_cv pm_M275 (pc' := 6) (a := 41) (ra := [.int x1, .int 3]) (rest := []) (ls' := [.ref 41, .int 3, .int x1]) rfl rfl (Or.inl rfl) pm_M177 rfl rfl (Nat.le_of_ble_eq_true rfl) (Nat.le_of_ble_eq_true rfl) rfl rfl (Nat.le_of_ble_eq_true rfl) rfl rfl ?_
      refine pm_R_lo pm_M177 (pc' := 1) rfl rfl rfl ?_
      refine pm_R_op pm_M177 (pc' := 2) (st' := [.int 0, .int x1]) rfl rfl rfl ?_
      refine pm_R_lo pm_M177 (pc' := 3) rfl rfl rfl ?_
      refine pm_R_get pm_M177 (pc' := 6) (v := .ref 46) rfl rfl rfl (Nat.le_of_ble_eq_true rfl) (Nat.le_of_ble_eq_true rfl) rfl rfl ?_
      refine pm_R_lo pm_M177 (pc' := 7) rfl rfl rfl ?_
      refine pm_R_iald pm_M177 (pc' := 8) (v := 0) rfl (hh 46 (Nat.le_of_ble_eq_true rfl)) (Nat.le_of_ble_eq_true rfl) rfl rfl rfl ?_
      refine pm_R_op pm_M177 (pc' := 9) (st' := [.int 1, .int 0, .int 0, .int x1]) rfl rfl rfl ?_
      refine pm_R_op pm_M177 (pc' := 10) (st' := [.int (-1), .int 0, .int x1]) rfl rfl rfl ?_
      refine pm_R_cs pm_M177 (pc' := 13) (ra := [.int (-1), .int 0, .int x1]) (rest := []) (ls' := [.int x1, .int 0, .int (-1)]) rfl rfl (Or.inl rfl) pm_M174 rfl rfl (Nat.le_of_ble_eq_true rfl) rfl rfl ?_
      refine pm_R_lo pm_M174 (pc' := 1) rfl rfl rfl ?_
      refine pm_R_lo pm_M174 (pc' := 2) rfl rfl rfl ?_
      refine pm_R_icmp pm_M174 (t := 14) (pc' := 5) rfl rfl rfl (fun c_5 => ?_) (fun c_5 => by exact absurd c_1 c_5)
      refine pm_R_op pm_M174 (pc' := 15) (st' := [.int 0]) rfl rfl rfl ?_
      refine pm_R_ret pm_M174 (r := some (.int 0)) rfl rfl ?_
      show pm_R _ 177 13 [.ref 41, .int 3, .int x1] [.int 0] _ _
      refine pm_R_ret pm_M177 (r := some (.int 0)) rfl rfl ?_
      show pm_R _ 275 6 [.ref 41, .int x1, .int x2] [.int 0] _ _
      refine pm_R_br pm_M275 (pc' := 17) (st' := []) rfl rfl ?_
      refine pm_R_op pm_M275 (pc' := 18) (st' := [.int 0]) rfl rfl rfl ?_
      refine pm_R_ret pm_M275 (r := some (.int 0)) rfl rfl ?_
      show pm_R _ 274 11 [.ref 41, .int x1, .int x2, .int x3, pm_no, pm_no] [.int 0] _ _
      refine pm_R_br pm_M274 (pc' := 23) (st' := []) rfl rfl ?_
      refine pm_R_op pm_M274 (pc' := 24) (st' := [.int (-1)]) rfl rfl rfl ?_
      refine pm_R_ret pm_M274 (r := some (.int (-1))) rfl rfl ?_
      show pm_R _ 0 1617 [.ref 0, .ref 16, .ref 41, .int 0] [.int (-1), .int (-1)] _ _
      refine pm_R_br pm_M0 (pc' := 2121) (st' := []) (pm_q0_20 (Nat.le_of_ble_eq_true rfl)) rfl ?_
      exact p1_tail (hh 0 (Nat.le_of_ble_eq_true rfl)) (Nat.le_of_ble_eq_true rfl) (Nat.le_of_ble_eq_true rfl) (Nat.le_of_ble_eq_true rfl)
  · refine pm_R_lo pm_M163 (pc' := 5) rfl rfl rfl ?_
    refine pm_R_lo pm_M163 (pc' := 6) rfl rfl rfl ?_
    refine pm_R_get pm_M163 (pc' := 9) (v := .ref 17) rfl rfl (hh 16 (Nat.le_of_ble_eq_true rfl)) (Nat.le_of_ble_eq_true rfl) (Nat.le_of_ble_eq_true rfl) rfl rfl ?_
    refine pm_R_get pm_M163 (pc' := 12) (v := .ref 23) rfl rfl (hh 17 (Nat.le_of_ble_eq_true rfl)) (Nat.le_of_ble_eq_true rfl) (Nat.le_of_ble_eq_true rfl) rfl rfl ?_
    refine pm_R_op pm_M163 (pc' := 13) (st' := [.int 3, .ref 23, .int x1]) rfl rfl rfl ?_
    refine pm_R_iald pm_M163 (pc' := 14) (v := 0) rfl (hh 23 (Nat.le_of_ble_eq_true rfl)) (Nat.le_of_ble_eq_true rfl) rfl rfl rfl ?_
    refine pm_R_icmp pm_M163 (t := 21) (pc' := 17) rfl rfl rfl (fun c_6 => by exact absurd c_6 c_1) (fun c_6 => ?_)
    refine pm_R_op pm_M163 (pc' := 18) (st' := [.null]) rfl rfl rfl ?_
    refine pm_R_br pm_M163 (pc' := 30) rfl rfl ?_
    refine pm_R_ret pm_M163 (r := some (.null)) rfl rfl ?_
    show pm_R _ 164 5 [.ref 16, .int x1, .int x2, .int x3, pm_no, pm_no, pm_no] [.null] _ _
    refine pm_R_lo pm_M164 (pc' := 7) (ls' := [.ref 16, .int x1, .int x2, .int x3, .null, pm_no, pm_no]) (st' := []) rfl rfl rfl ?_
    refine pm_R_lo pm_M164 (pc' := 8) rfl rfl rfl ?_
    refine pm_R_lo pm_M164 (pc' := 9) rfl rfl rfl ?_
    refine pm_R_cv pm_M164 (pc' := 12) (a := 16) (ra := [.int x2]) (rest := []) (ls' := [.ref 16, .int x2]) rfl rfl (Or.inl rfl) pm_M139 (hh 16 (Nat.le_of_ble_eq_true rfl)) rfl (Nat.le_of_ble_eq_true rfl) (Nat.le_of_ble_eq_true rfl) rfl rfl (Nat.le_of_ble_eq_true rfl) rfl rfl ?_
    refine pm_R_lo pm_M139 (pc' := 1) rfl rfl rfl ?_
    refine pm_R_ifc pm_M139 (t := 17) (pc' := 4) rfl rfl rfl (fun c_7 => ?_) (fun c_7 => ?_)
    · refine pm_R_op pm_M139 (pc' := 18) (st' := [.null]) rfl rfl rfl ?_
      refine pm_R_br pm_M139 (pc' := 30) rfl rfl ?_
      refine pm_R_ret pm_M139 (r := some (.null)) rfl rfl ?_
      show pm_R _ 164 12 [.ref 16, .int x1, .int x2, .int x3, .null, pm_no, pm_no] [.null] _ _
      refine pm_R_lo pm_M164 (pc' := 14) (ls' := [.ref 16, .int x1, .int x2, .int x3, .null, .null, pm_no]) (st' := []) rfl rfl rfl ?_
      refine pm_R_lo pm_M164 (pc' := 16) rfl rfl rfl ?_
      refine pm_R_br pm_M164 (pc' := 33) rfl rfl ?_
      refine pm_R_op pm_M164 (pc' := 34) (st' := [.int (-1)]) rfl rfl rfl ?_
      refine pm_R_ret pm_M164 (r := some (.int (-1))) rfl rfl ?_
      show pm_R _ 0 1598 [.ref 0, .ref 16, .ref 41, .int 0] [.int (-1)] _ _
      refine pm_R_lo pm_M0 (pc' := 1599) (pm_q0_20 (Nat.le_of_ble_eq_true rfl)) rfl rfl ?_
      refine pm_R_lo pm_M0 (pc' := 1600) (pm_q0_20 (Nat.le_of_ble_eq_true rfl)) rfl rfl ?_
      refine pm_R_lo pm_M0 (pc' := 1601) (pm_q0_20 (Nat.le_of_ble_eq_true rfl)) rfl rfl ?_
      refine pm_R_op pm_M0 (pc' := 1602) (st' := [.int 1, .int 0, .ref 0, .ref 41, .int (-1)]) (pm_q0_20 (Nat.le_of_ble_eq_true rfl)) rfl rfl ?_
      refine pm_R_op pm_M0 (pc' := 1603) (st' := [.int 1, .ref 0, .ref 41, .int (-1)]) (pm_q0_20 (Nat.le_of_ble_eq_true rfl)) rfl rfl ?_
      refine pm_R_iald pm_M0 (pc' := 1604) (v := x1) (pm_q0_20 (Nat.le_of_ble_eq_true rfl)) (hh 0 (Nat.le_of_ble_eq_true rfl)) (Nat.le_of_ble_eq_true rfl) rfl hx1 rfl ?_
      refine pm_R_lo pm_M0 (pc' := 1605) (pm_q0_20 (Nat.le_of_ble_eq_true rfl)) rfl rfl ?_
      refine pm_R_lo pm_M0 (pc' := 1606) (pm_q0_20 (Nat.le_of_ble_eq_true rfl)) rfl rfl ?_
      refine pm_R_op pm_M0 (pc' := 1607) (st' := [.int 2, .int 0, .ref 0, .int x1, .ref 41, .int (-1)]) (pm_q0_20 (Nat.le_of_ble_eq_true rfl)) rfl rfl ?_
      refine pm_R_op pm_M0 (pc' := 1608) (st' := [.int 2, .ref 0, .int x1, .ref 41, .int (-1)]) (pm_q0_20 (Nat.le_of_ble_eq_true rfl)) rfl rfl ?_
      refine pm_R_iald pm_M0 (pc' := 1609) (v := x2) (pm_q0_20 (Nat.le_of_ble_eq_true rfl)) (hh 0 (Nat.le_of_ble_eq_true rfl)) (Nat.le_of_ble_eq_true rfl) rfl hx2 rfl ?_
      refine pm_R_lo pm_M0 (pc' := 1610) (pm_q0_20 (Nat.le_of_ble_eq_true rfl)) rfl rfl ?_
      refine pm_R_lo pm_M0 (pc' := 1611) (pm_q0_20 (Nat.le_of_ble_eq_true rfl)) rfl rfl ?_
      refine pm_R_op pm_M0 (pc' := 1612) (st' := [.int 3, .int 0, .ref 0, .int x2, .int x1, .ref 41, .int (-1)]) (pm_q0_20 (Nat.le_of_ble_eq_true rfl)) rfl rfl ?_
      refine pm_R_op pm_M0 (pc' := 1613) (st' := [.int 3, .ref 0, .int x2, .int x1, .ref 41, .int (-1)]) (pm_q0_20 (Nat.le_of_ble_eq_true rfl)) rfl rfl ?_
      refine pm_R_iald pm_M0 (pc' := 1614) (v := x3) (pm_q0_20 (Nat.le_of_ble_eq_true rfl)) (hh 0 (Nat.le_of_ble_eq_true rfl)) (Nat.le_of_ble_eq_true rfl) rfl hx3 rfl ?_
      refine pm_R_cv pm_M0 (pc' := 1617) (a := 41) (ra := [.int x3, .int x2, .int x1]) (rest := [.int (-1)]) (ls' := [.ref 41, .int x1, .int x2, .int x3, pm_no, pm_no]) (pm_q0_20 (Nat.le_of_ble_eq_true rfl)) rfl (Or.inl rfl) pm_M274 (hh 41 (Nat.le_of_ble_eq_true rfl)) rfl (Nat.le_of_ble_eq_true rfl) (Nat.le_of_ble_eq_true rfl) rfl rfl (Nat.le_of_ble_eq_true rfl) rfl rfl ?_
      refine pm_R_lo pm_M274 (pc' := 1) rfl rfl rfl ?_
      refine pm_R_op pm_M274 (pc' := 2) (st' := [.int 0, .ref 41]) rfl rfl rfl ?_
      refine pm_R_put pm_M274 (pc' := 5) (fs' := [.int 0, .ref 42, .ref 43, .ref 44, .ref 45, .ref 46, .ref 47, .ref 48, .ref 49, .ref 50, .int 0, .int 0, .int 0, .int 0, .int 0, .long 0, .int 0, .int 0, .int 0, .ref 51, .ref 52, .int 0, .int 0, .int 0, .int 0, .ref 53, .int 0, .int 0, .ref 54, .ref 55, .ref 56, .int 0, .ref 57, .ref 58, .ref 59, .ref 60, .ref 61, .ref 62, .ref 63, .ref 64, .ref 65, .ref 66, .int 0, .int 0, .int 0, .ref 67, .ref 68, .int 0, .ref 69, .int 0, .int 0, .ref 70, .ref 71]) rfl rfl rfl (hh 41 (Nat.le_of_ble_eq_true rfl)) (Nat.le_of_ble_eq_true rfl) (Nat.le_of_ble_eq_true rfl) (Nat.le_of_ble_eq_true rfl) rfl (Or.inl rfl) rfl rfl ?_
      refine pm_R_lo pm_M274 (pc' := 6) rfl rfl rfl ?_
      refine pm_R_lo pm_M274 (pc' := 7) rfl rfl rfl ?_
      refine pm_R_lo pm_M274 (pc' := 8) rfl rfl rfl ?_
      refine pm_R_cv pm_M274 (pc' := 11) (a := 41) (ra := [.int x2, .int x1]) (rest := []) (ls' := [.ref 41, .int x1, .int x2]) rfl rfl (Or.inl rfl) pm_M275 rfl rfl (Nat.le_of_ble_eq_true rfl) (Nat.le_of_ble_eq_true rfl) rfl rfl (Nat.le_of_ble_eq_true rfl) rfl rfl ?_
      refine pm_R_lo pm_M275 (pc' := 1) rfl rfl rfl ?_
      refine pm_R_op pm_M275 (pc' := 2) (st' := [.int 3, .ref 41]) rfl rfl rfl ?_
      refine pm_R_lo pm_M275 (pc' := 3) rfl rfl rfl ?_
      refine pm_R_cv pm_M275 (pc' := 6) (a := 41) (ra := [.int x1, .int 3]) (rest := []) (ls' := [.ref 41, .int 3, .int x1]) rfl rfl (Or.inl rfl) pm_M177 rfl rfl (Nat.le_of_ble_eq_true rfl) (Nat.le_of_ble_eq_true rfl) rfl rfl (Nat.le_of_ble_eq_true rfl) rfl rfl ?_
      refine pm_R_lo pm_M177 (pc' := 1) rfl rfl rfl ?_
      refine pm_R_op pm_M177 (pc' := 2) (st' := [.int 0, .int x1]) rfl rfl rfl ?_
      refine pm_R_lo pm_M177 (pc' := 3) rfl rfl rfl ?_
      refine pm_R_get pm_M177 (pc' := 6) (v := .ref 46) rfl rfl rfl (Nat.le_of_ble_eq_true rfl) (Nat.le_of_ble_eq_true rfl) rfl rfl ?_
      refine pm_R_lo pm_M177 (pc' := 7) rfl rfl rfl ?_
      refine pm_R_iald pm_M177 (pc' := 8) (v := 0) rfl (hh 46 (Nat.le_of_ble_eq_true rfl)) (Nat.le_of_ble_eq_true rfl) rfl rfl rfl ?_
      refine pm_R_op pm_M177 (pc' := 9) (st' := [.int 1, .int 0, .int 0, .int x1]) rfl rfl rfl ?_
      refine pm_R_op pm_M177 (pc' := 10) (st' := [.int (-1), .int 0, .int x1]) rfl rfl rfl ?_
      refine pm_R_cs pm_M177 (pc' := 13) (ra := [.int (-1), .int 0, .int x1]) (rest := []) (ls' := [.int x1, .int 0, .int (-1)]) rfl rfl (Or.inl rfl) pm_M174 rfl rfl (Nat.le_of_ble_eq_true rfl) rfl rfl ?_
      refine pm_R_lo pm_M174 (pc' := 1) rfl rfl rfl ?_
      refine pm_R_lo pm_M174 (pc' := 2) rfl rfl rfl ?_
      refine pm_R_icmp pm_M174 (t := 14) (pc' := 5) rfl rfl rfl (fun c_8 => by exact absurd c_8 c_1) (fun c_8 => ?_)
      refine pm_R_lo pm_M174 (pc' := 6) rfl rfl rfl ?_
      refine pm_R_lo pm_M174 (pc' := 7) rfl rfl rfl ?_
      refine pm_R_icmp pm_M174 (t := 14) (pc' := 10) rfl rfl rfl (fun c_9 => ?_) (fun c_9 => by have z0 : ((-1) : Int32).toInt = -1 := (by decide); have z1 : ((0) : Int32).toInt = 0 := (by decide); have q0 := (Int32.le_iff_toInt_le.mp (Int32.not_lt.mp c_1)); have q1 := (Int32.le_iff_toInt_le.mp (Int32.not_lt.mp c_9)); exfalso; omega)
      refine pm_R_op pm_M174 (pc' := 15) (st' := [.int 0]) rfl rfl rfl ?_
      refine pm_R_ret pm_M174 (r := some (.int 0)) rfl rfl ?_
      show pm_R _ 177 13 [.ref 41, .int 3, .int x1] [.int 0] _ _
      refine pm_R_ret pm_M177 (r := some (.int 0)) rfl rfl ?_
      show pm_R _ 275 6 [.ref 41, .int x1, .int x2] [.int 0] _ _
      refine pm_R_br pm_M275 (pc' := 17) (st' := []) rfl rfl ?_
      refine pm_R_op pm_M275 (pc' := 18) (st' := [.int 0]) rfl rfl rfl ?_
      refine pm_R_ret pm_M275 (r := some (.int 0)) rfl rfl ?_
      show pm_R _ 274 11 [.ref 41, .int x1, .int x2, .int x3, pm_no, pm_no] [.int 0] _ _
      refine pm_R_br pm_M274 (pc' := 23) (st' := []) rfl rfl ?_
      refine pm_R_op pm_M274 (pc' := 24) (st' := [.int (-1)]) rfl rfl rfl ?_
      refine pm_R_ret pm_M274 (r := some (.int (-1))) rfl rfl ?_
      show pm_R _ 0 1617 [.ref 0, .ref 16, .ref 41, .int 0] [.int (-1), .int (-1)] _ _
      refine pm_R_br pm_M0 (pc' := 2121) (st' := []) (pm_q0_20 (Nat.le_of_ble_eq_true rfl)) rfl ?_
      exact p1_tail (hh 0 (Nat.le_of_ble_eq_true rfl)) (Nat.le_of_ble_eq_true rfl) (Nat.le_of_ble_eq_true rfl) (Nat.le_of_ble_eq_true rfl)
    · refine pm_R_lo pm_M139 (pc' := 5) rfl rfl rfl ?_
      refine pm_R_lo pm_M139 (pc' := 6) rfl rfl rfl ?_
      refine pm_R_get pm_M139 (pc' := 9) (v := .ref 17) rfl rfl (hh 16 (Nat.le_of_ble_eq_true rfl)) (Nat.le_of_ble_eq_true rfl) (Nat.le_of_ble_eq_true rfl) rfl rfl ?_
      refine pm_R_get pm_M139 (pc' := 12) (v := .ref 23) rfl rfl (hh 17 (Nat.le_of_ble_eq_true rfl)) (Nat.le_of_ble_eq_true rfl) (Nat.le_of_ble_eq_true rfl) rfl rfl ?_
      refine pm_R_op pm_M139 (pc' := 13) (st' := [.int 2, .ref 23, .int x2]) rfl rfl rfl ?_
      refine pm_R_iald pm_M139 (pc' := 14) (v := 0) rfl (hh 23 (Nat.le_of_ble_eq_true rfl)) (Nat.le_of_ble_eq_true rfl) rfl rfl rfl ?_
      refine pm_R_icmp pm_M139 (t := 21) (pc' := 17) rfl rfl rfl (fun c_10 => by exact absurd c_10 c_7) (fun c_10 => ?_)
      refine pm_R_op pm_M139 (pc' := 18) (st' := [.null]) rfl rfl rfl ?_
      refine pm_R_br pm_M139 (pc' := 30) rfl rfl ?_
      refine pm_R_ret pm_M139 (r := some (.null)) rfl rfl ?_
      show pm_R _ 164 12 [.ref 16, .int x1, .int x2, .int x3, .null, pm_no, pm_no] [.null] _ _
      refine pm_R_lo pm_M164 (pc' := 14) (ls' := [.ref 16, .int x1, .int x2, .int x3, .null, .null, pm_no]) (st' := []) rfl rfl rfl ?_
      refine pm_R_lo pm_M164 (pc' := 16) rfl rfl rfl ?_
      refine pm_R_br pm_M164 (pc' := 33) rfl rfl ?_
      refine pm_R_op pm_M164 (pc' := 34) (st' := [.int (-1)]) rfl rfl rfl ?_
      refine pm_R_ret pm_M164 (r := some (.int (-1))) rfl rfl ?_
      show pm_R _ 0 1598 [.ref 0, .ref 16, .ref 41, .int 0] [.int (-1)] _ _
      refine pm_R_lo pm_M0 (pc' := 1599) (pm_q0_20 (Nat.le_of_ble_eq_true rfl)) rfl rfl ?_
      refine pm_R_lo pm_M0 (pc' := 1600) (pm_q0_20 (Nat.le_of_ble_eq_true rfl)) rfl rfl ?_
      refine pm_R_lo pm_M0 (pc' := 1601) (pm_q0_20 (Nat.le_of_ble_eq_true rfl)) rfl rfl ?_
      refine pm_R_op pm_M0 (pc' := 1602) (st' := [.int 1, .int 0, .ref 0, .ref 41, .int (-1)]) (pm_q0_20 (Nat.le_of_ble_eq_true rfl)) rfl rfl ?_
      refine pm_R_op pm_M0 (pc' := 1603) (st' := [.int 1, .ref 0, .ref 41, .int (-1)]) (pm_q0_20 (Nat.le_of_ble_eq_true rfl)) rfl rfl ?_
      refine pm_R_iald pm_M0 (pc' := 1604) (v := x1) (pm_q0_20 (Nat.le_of_ble_eq_true rfl)) (hh 0 (Nat.le_of_ble_eq_true rfl)) (Nat.le_of_ble_eq_true rfl) rfl hx1 rfl ?_
      refine pm_R_lo pm_M0 (pc' := 1605) (pm_q0_20 (Nat.le_of_ble_eq_true rfl)) rfl rfl ?_
      refine pm_R_lo pm_M0 (pc' := 1606) (pm_q0_20 (Nat.le_of_ble_eq_true rfl)) rfl rfl ?_
      refine pm_R_op pm_M0 (pc' := 1607) (st' := [.int 2, .int 0, .ref 0, .int x1, .ref 41, .int (-1)]) (pm_q0_20 (Nat.le_of_ble_eq_true rfl)) rfl rfl ?_
      refine pm_R_op pm_M0 (pc' := 1608) (st' := [.int 2, .ref 0, .int x1, .ref 41, .int (-1)]) (pm_q0_20 (Nat.le_of_ble_eq_true rfl)) rfl rfl ?_
      refine pm_R_iald pm_M0 (pc' := 1609) (v := x2) (pm_q0_20 (Nat.le_of_ble_eq_true rfl)) (hh 0 (Nat.le_of_ble_eq_true rfl)) (Nat.le_of_ble_eq_true rfl) rfl hx2 rfl ?_
      refine pm_R_lo pm_M0 (pc' := 1610) (pm_q0_20 (Nat.le_of_ble_eq_true rfl)) rfl rfl ?_
      refine pm_R_lo pm_M0 (pc' := 1611) (pm_q0_20 (Nat.le_of_ble_eq_true rfl)) rfl rfl ?_
      refine pm_R_op pm_M0 (pc' := 1612) (st' := [.int 3, .int 0, .ref 0, .int x2, .int x1, .ref 41, .int (-1)]) (pm_q0_20 (Nat.le_of_ble_eq_true rfl)) rfl rfl ?_
      refine pm_R_op pm_M0 (pc' := 1613) (st' := [.int 3, .ref 0, .int x2, .int x1, .ref 41, .int (-1)]) (pm_q0_20 (Nat.le_of_ble_eq_true rfl)) rfl rfl ?_
      refine pm_R_iald pm_M0 (pc' := 1614) (v := x3) (pm_q0_20 (Nat.le_of_ble_eq_true rfl)) (hh 0 (Nat.le_of_ble_eq_true rfl)) (Nat.le_of_ble_eq_true rfl) rfl hx3 rfl ?_
      refine pm_R_cv pm_M0 (pc' := 1617) (a := 41) (ra := [.int x3, .int x2, .int x1]) (rest := [.int (-1)]) (ls' := [.ref 41, .int x1, .int x2, .int x3, pm_no, pm_no]) (pm_q0_20 (Nat.le_of_ble_eq_true rfl)) rfl (Or.inl rfl) pm_M274 (hh 41 (Nat.le_of_ble_eq_true rfl)) rfl (Nat.le_of_ble_eq_true rfl) (Nat.le_of_ble_eq_true rfl) rfl rfl (Nat.le_of_ble_eq_true rfl) rfl rfl ?_
      refine pm_R_lo pm_M274 (pc' := 1) rfl rfl rfl ?_
      refine pm_R_op pm_M274 (pc' := 2) (st' := [.int 0, .ref 41]) rfl rfl rfl ?_
      refine pm_R_put pm_M274 (pc' := 5) (fs' := [.int 0, .ref 42, .ref 43, .ref 44, .ref 45, .ref 46, .ref 47, .ref 48, .ref 49, .ref 50, .int 0, .int 0, .int 0, .int 0, .int 0, .long 0, .int 0, .int 0, .int 0, .ref 51, .ref 52, .int 0, .int 0, .int 0, .int 0, .ref 53, .int 0, .int 0, .ref 54, .ref 55, .ref 56, .int 0, .ref 57, .ref 58, .ref 59, .ref 60, .ref 61, .ref 62, .ref 63, .ref 64, .ref 65, .ref 66, .int 0, .int 0, .int 0, .ref 67, .ref 68, .int 0, .ref 69, .int 0, .int 0, .ref 70, .ref 71]) rfl rfl rfl (hh 41 (Nat.le_of_ble_eq_true rfl)) (Nat.le_of_ble_eq_true rfl) (Nat.le_of_ble_eq_true rfl) (Nat.le_of_ble_eq_true rfl) rfl (Or.inl rfl) rfl rfl ?_
      refine pm_R_lo pm_M274 (pc' := 6) rfl rfl rfl ?_
      refine pm_R_lo pm_M274 (pc' := 7) rfl rfl rfl ?_
      refine pm_R_lo pm_M274 (pc' := 8) rfl rfl rfl ?_
      refine pm_R_cv pm_M274 (pc' := 11) (a := 41) (ra := [.int x2, .int x1]) (rest := []) (ls' := [.ref 41, .int x1, .int x2]) rfl rfl (Or.inl rfl) pm_M275 rfl rfl (Nat.le_of_ble_eq_true rfl) (Nat.le_of_ble_eq_true rfl) rfl rfl (Nat.le_of_ble_eq_true rfl) rfl rfl ?_
      refine pm_R_lo pm_M275 (pc' := 1) rfl rfl rfl ?_
      refine pm_R_op pm_M275 (pc' := 2) (st' := [.int 3, .ref 41]) rfl rfl rfl ?_
      refine pm_R_lo pm_M275 (pc' := 3) rfl rfl rfl ?_
      refine pm_R_cv pm_M275 (pc' := 6) (a := 41) (ra := [.int x1, .int 3]) (rest := []) (ls' := [.ref 41, .int 3, .int x1]) rfl rfl (Or.inl rfl) pm_M177 rfl rfl (Nat.le_of_ble_eq_true rfl) (Nat.le_of_ble_eq_true rfl) rfl rfl (Nat.le_of_ble_eq_true rfl) rfl rfl ?_
      refine pm_R_lo pm_M177 (pc' := 1) rfl rfl rfl ?_
      refine pm_R_op pm_M177 (pc' := 2) (st' := [.int 0, .int x1]) rfl rfl rfl ?_
      refine pm_R_lo pm_M177 (pc' := 3) rfl rfl rfl ?_
      refine pm_R_get pm_M177 (pc' := 6) (v := .ref 46) rfl rfl rfl (Nat.le_of_ble_eq_true rfl) (Nat.le_of_ble_eq_true rfl) rfl rfl ?_
      refine pm_R_lo pm_M177 (pc' := 7) rfl rfl rfl ?_
      refine pm_R_iald pm_M177 (pc' := 8) (v := 0) rfl (hh 46 (Nat.le_of_ble_eq_true rfl)) (Nat.le_of_ble_eq_true rfl) rfl rfl rfl ?_
      refine pm_R_op pm_M177 (pc' := 9) (st' := [.int 1, .int 0, .int 0, .int x1]) rfl rfl rfl ?_
      refine pm_R_op pm_M177 (pc' := 10) (st' := [.int (-1), .int 0, .int x1]) rfl rfl rfl ?_
      refine pm_R_cs pm_M177 (pc' := 13) (ra := [.int (-1), .int 0, .int x1]) (rest := []) (ls' := [.int x1, .int 0, .int (-1)]) rfl rfl (Or.inl rfl) pm_M174 rfl rfl (Nat.le_of_ble_eq_true rfl) rfl rfl ?_
      refine pm_R_lo pm_M174 (pc' := 1) rfl rfl rfl ?_
      refine pm_R_lo pm_M174 (pc' := 2) rfl rfl rfl ?_
      refine pm_R_icmp pm_M174 (t := 14) (pc' := 5) rfl rfl rfl (fun c_11 => by exact absurd c_11 c_1) (fun c_11 => ?_)
      refine pm_R_lo pm_M174 (pc' := 6) rfl rfl rfl ?_
      refine pm_R_lo pm_M174 (pc' := 7) rfl rfl rfl ?_
      refine pm_R_icmp pm_M174 (t := 14) (pc' := 10) rfl rfl rfl (fun c_12 => ?_) (fun c_12 => by have z0 : ((-1) : Int32).toInt = -1 := (by decide); have z1 : ((0) : Int32).toInt = 0 := (by decide); have q0 := (Int32.le_iff_toInt_le.mp (Int32.not_lt.mp c_1)); have q1 := (Int32.le_iff_toInt_le.mp (Int32.not_lt.mp c_12)); exfalso; omega)
      refine pm_R_op pm_M174 (pc' := 15) (st' := [.int 0]) rfl rfl rfl ?_
      refine pm_R_ret pm_M174 (r := some (.int 0)) rfl rfl ?_
      show pm_R _ 177 13 [.ref 41, .int 3, .int x1] [.int 0] _ _
      refine pm_R_ret pm_M177 (r := some (.int 0)) rfl rfl ?_
      show pm_R _ 275 6 [.ref 41, .int x1, .int x2] [.int 0] _ _
      refine pm_R_br pm_M275 (pc' := 17) (st' := []) rfl rfl ?_
      refine pm_R_op pm_M275 (pc' := 18) (st' := [.int 0]) rfl rfl rfl ?_
      refine pm_R_ret pm_M275 (r := some (.int 0)) rfl rfl ?_
      show pm_R _ 274 11 [.ref 41, .int x1, .int x2, .int x3, pm_no, pm_no] [.int 0] _ _
      refine pm_R_br pm_M274 (pc' := 23) (st' := []) rfl rfl ?_
      refine pm_R_op pm_M274 (pc' := 24) (st' := [.int (-1)]) rfl rfl rfl ?_
      refine pm_R_ret pm_M274 (r := some (.int (-1))) rfl rfl ?_
      show pm_R _ 0 1617 [.ref 0, .ref 16, .ref 41, .int 0] [.int (-1), .int (-1)] _ _
      refine pm_R_br pm_M0 (pc' := 2121) (st' := []) (pm_q0_20 (Nat.le_of_ble_eq_true rfl)) rfl ?_
      exact p1_tail (hh 0 (Nat.le_of_ble_eq_true rfl)) (Nat.le_of_ble_eq_true rfl) (Nat.le_of_ble_eq_true rfl) (Nat.le_of_ble_eq_true rfl)
set_option maxRecDepth 100000 in
set_option maxHeartbeats 40000000 in
theorem p1_c31 (xs : Nat → Int32) (f : Nat → pm_E) (hh : ∀ i, i < 72 → f i = pm_fF 7 xs i) (x0 x1 x2 x3 x4 x5 x6 : Int32) (hx0 : xs 0 = x0) (hx1 : xs 1 = x1) (hx2 : xs 2 = x2) (hx3 : xs 3 = x3) (hx4 : xs 4 = x4) (hx5 : xs 5 = x5) (hx6 : xs 6 = x6) : pm_R 100 0 1622 [.ref 0, .ref 16, .ref 41, .int 0] [] (72, 52657, f) p1_Q := by
  refine pm_R_lo pm_M0 (pc' := 1623) (pm_q0_20 (Nat.le_of_ble_eq_true rfl)) rfl rfl ?_
  refine pm_R_lo pm_M0 (pc' := 1624) (pm_q0_20 (Nat.le_of_ble_eq_true rfl)) rfl rfl ?_
  refine pm_R_lo pm_M0 (pc' := 1625) (pm_q0_20 (Nat.le_of_ble_eq_true rfl)) rfl rfl ?_
  refine pm_R_op pm_M0 (pc' := 1626) (st' := [.int 1, .int 0, .ref 0, .ref 16]) (pm_q0_20 (Nat.le_of_ble_eq_true rfl)) rfl rfl ?_
  refine pm_R_op pm_M0 (pc' := 1627) (st' := [.int 1, .ref 0, .ref 16]) (pm_q0_20 (Nat.le_of_ble_eq_true rfl)) rfl rfl ?_
  refine pm_R_iald pm_M0 (pc' := 1628) (v := x1) (pm_q0_20 (Nat.le_of_ble_eq_true rfl)) (hh 0 (Nat.le_of_ble_eq_true rfl)) (Nat.le_of_ble_eq_true rfl) rfl hx1 rfl ?_
  refine pm_R_lo pm_M0 (pc' := 1629) (pm_q0_20 (Nat.le_of_ble_eq_true rfl)) rfl rfl ?_
  refine pm_R_lo pm_M0 (pc' := 1630) (pm_q0_20 (Nat.le_of_ble_eq_true rfl)) rfl rfl ?_
  refine pm_R_op pm_M0 (pc' := 1631) (st' := [.int 2, .int 0, .ref 0, .int x1, .ref 16]) (pm_q0_20 (Nat.le_of_ble_eq_true rfl)) rfl rfl ?_
  refine pm_R_op pm_M0 (pc' := 1632) (st' := [.int 2, .ref 0, .int x1, .ref 16]) (pm_q0_20 (Nat.le_of_ble_eq_true rfl)) rfl rfl ?_
  refine pm_R_iald pm_M0 (pc' := 1633) (v := x2) (pm_q0_20 (Nat.le_of_ble_eq_true rfl)) (hh 0 (Nat.le_of_ble_eq_true rfl)) (Nat.le_of_ble_eq_true rfl) rfl hx2 rfl ?_
  refine pm_R_lo pm_M0 (pc' := 1634) (pm_q0_20 (Nat.le_of_ble_eq_true rfl)) rfl rfl ?_
  refine pm_R_lo pm_M0 (pc' := 1635) (pm_q0_20 (Nat.le_of_ble_eq_true rfl)) rfl rfl ?_
  refine pm_R_op pm_M0 (pc' := 1636) (st' := [.int 3, .int 0, .ref 0, .int x2, .int x1, .ref 16]) (pm_q0_20 (Nat.le_of_ble_eq_true rfl)) rfl rfl ?_
  refine pm_R_op pm_M0 (pc' := 1637) (st' := [.int 3, .ref 0, .int x2, .int x1, .ref 16]) (pm_q0_20 (Nat.le_of_ble_eq_true rfl)) rfl rfl ?_
  refine pm_R_iald pm_M0 (pc' := 1638) (v := x3) (pm_q0_20 (Nat.le_of_ble_eq_true rfl)) (hh 0 (Nat.le_of_ble_eq_true rfl)) (Nat.le_of_ble_eq_true rfl) rfl hx3 rfl ?_
  refine pm_R_cv pm_M0 (pc' := 1641) (a := 16) (ra := [.int x3, .int x2, .int x1]) (rest := []) (ls' := [.ref 16, .int x1, .int x2, .int x3, pm_no, pm_no, pm_no, pm_no]) (pm_q0_20 (Nat.le_of_ble_eq_true rfl)) rfl (Or.inl rfl) pm_M167 (hh 16 (Nat.le_of_ble_eq_true rfl)) rfl (Nat.le_of_ble_eq_true rfl) (Nat.le_of_ble_eq_true rfl) rfl rfl (Nat.le_of_ble_eq_true rfl) rfl rfl ?_
  refine pm_R_lo pm_M167 (pc' := 1) rfl rfl rfl ?_
  refine pm_R_lo pm_M167 (pc' := 2) rfl rfl rfl ?_
  refine pm_R_cv pm_M167 (pc' := 5) (a := 16) (ra := [.int x1]) (rest := []) (ls' := [.ref 16, .int x1]) rfl rfl (Or.inl rfl) pm_M163 (hh 16 (Nat.le_of_ble_eq_true rfl)) rfl (Nat.le_of_ble_eq_true rfl) (Nat.le_of_ble_eq_true rfl) rfl rfl (Nat.le_of_ble_eq_true rfl) rfl rfl ?_
  refine pm_R_lo pm_M163 (pc' := 1) rfl rfl rfl ?_
  refine pm_R_ifc pm_M163 (t := 17) (pc' := 4) rfl rfl rfl (fun c_1 => ?_) (fun c_1 => ?_)
  · refine pm_R_op pm_M163 (pc' := 18) (st' := [.null]) rfl rfl rfl ?_
    refine pm_R_br pm_M163 (pc' := 30) rfl rfl ?_
    refine pm_R_ret pm_M163 (r := some (.null)) rfl rfl ?_
    show pm_R _ 167 5 [.ref 16, .int x1, .int x2, .int x3, pm_no, pm_no, pm_no, pm_no] [.null] _ _
    refine pm_R_lo pm_M167 (pc' := 7) (ls' := [.ref 16, .int x1, .int x2, .int x3, .null, pm_no, pm_no, pm_no]) (st' := []) rfl rfl rfl ?_
    refine pm_R_lo pm_M167 (pc' := 8) rfl rfl rfl ?_
    refine pm_R_lo pm_M167 (pc' := 9) rfl rfl rfl ?_
    refine pm_R_cv pm_M167 (pc' := 12) (a := 16) (ra := [.int x2]) (rest := []) (ls' := [.ref 16, .int x2]) rfl rfl (Or.inl rfl) pm_M139 (hh 16 (Nat.le_of_ble_eq_true rfl)) rfl (Nat.le_of_ble_eq_true rfl) (Nat.le_of_ble_eq_true rfl) rfl rfl (Nat.le_of_ble_eq_true rfl) rfl rfl ?_
    refine pm_R_lo pm_M139 (pc' := 1) rfl rfl rfl ?_
    refine pm_R_ifc pm_M139 (t := 17) (pc' := 4) rfl rfl rfl (fun c_2 => ?_) (fun c_2 => ?_)
    · refine pm_R_op pm_M139 (pc' := 18) (st' := [.null]) rfl rfl rfl ?_
      refine pm_R_br pm_M139 (pc' := 30) rfl rfl ?_
      refine pm_R_ret pm_M139 (r := some (.null)) rfl rfl ?_
      show pm_R _ 167 12 [.ref 16, .int x1, .int x2, .int x3, .null, pm_no, pm_no, pm_no] [.null] _ _
      refine pm_R_lo pm_M167 (pc' := 14) (ls' := [.ref 16, .int x1, .int x2, .int x3, .null, .null, pm_no, pm_no]) (st' := []) rfl rfl rfl ?_
      refine pm_R_lo pm_M167 (pc' := 16) rfl rfl rfl ?_
      refine pm_R_br pm_M167 (pc' := 38) rfl rfl ?_
      refine pm_R_op pm_M167 (pc' := 39) (st' := [.int (-1)]) rfl rfl rfl ?_
      refine pm_R_ret pm_M167 (r := some (.int (-1))) rfl rfl ?_
      show pm_R _ 0 1641 [.ref 0, .ref 16, .ref 41, .int 0] [.int (-1)] _ _
      refine pm_R_lo pm_M0 (pc' := 1642) (pm_q0_20 (Nat.le_of_ble_eq_true rfl)) rfl rfl ?_
      refine pm_R_lo pm_M0 (pc' := 1643) (pm_q0_20 (Nat.le_of_ble_eq_true rfl)) rfl rfl ?_
      refine pm_R_lo pm_M0 (pc' := 1644) (pm_q0_20 (Nat.le_of_ble_eq_true rfl)) rfl rfl ?_
      refine pm_R_op pm_M0 (pc' := 1645) (st' := [.int 1, .int 0, .ref 0, .ref 41, .int (-1)]) (pm_q0_20 (Nat.le_of_ble_eq_true rfl)) rfl rfl ?_
      refine pm_R_op pm_M0 (pc' := 1646) (st' := [.int 1, .ref 0, .ref 41, .int (-1)]) (pm_q0_20 (Nat.le_of_ble_eq_true rfl)) rfl rfl ?_
      refine pm_R_iald pm_M0 (pc' := 1647) (v := x1) (pm_q0_20 (Nat.le_of_ble_eq_true rfl)) (hh 0 (Nat.le_of_ble_eq_true rfl)) (Nat.le_of_ble_eq_true rfl) rfl hx1 rfl ?_
      refine pm_R_lo pm_M0 (pc' := 1648) (pm_q0_20 (Nat.le_of_ble_eq_true rfl)) rfl rfl ?_
      refine pm_R_lo pm_M0 (pc' := 1649) (pm_q0_20 (Nat.le_of_ble_eq_true rfl)) rfl rfl ?_
      refine pm_R_op pm_M0 (pc' := 1650) (st' := [.int 2, .int 0, .ref 0, .int x1, .ref 41, .int (-1)]) (pm_q0_20 (Nat.le_of_ble_eq_true rfl)) rfl rfl ?_
      refine pm_R_op pm_M0 (pc' := 1651) (st' := [.int 2, .ref 0, .int x1, .ref 41, .int (-1)]) (pm_q0_20 (Nat.le_of_ble_eq_true rfl)) rfl rfl ?_
      refine pm_R_iald pm_M0 (pc' := 1652) (v := x2) (pm_q0_20 (Nat.le_of_ble_eq_true rfl)) (hh 0 (Nat.le_of_ble_eq_true rfl)) (Nat.le_of_ble_eq_true rfl) rfl hx2 rfl ?_
      refine pm_R_lo pm_M0 (pc' := 1653) (pm_q0_20 (Nat.le_of_ble_eq_true rfl)) rfl rfl ?_
      refine pm_R_lo pm_M0 (pc' := 1654) (pm_q0_20 (Nat.le_of_ble_eq_true rfl)) rfl rfl ?_
      refine pm_R_op pm_M0 (pc' := 1655) (st' := [.int 3, .int 0, .ref 0, .int x2, .int x1, .ref 41, .int (-1)]) (pm_q0_20 (Nat.le_of_ble_eq_true rfl)) rfl rfl ?_
      refine pm_R_op pm_M0 (pc' := 1656) (st' := [.int 3, .ref 0, .int x2, .int x1, .ref 41, .int (-1)]) (pm_q0_20 (Nat.le_of_ble_eq_true rfl)) rfl rfl ?_
      refine pm_R_iald pm_M0 (pc' := 1657) (v := x3) (pm_q0_20 (Nat.le_of_ble_eq_true rfl)) (hh 0 (Nat.le_of_ble_eq_true rfl)) (Nat.le_of_ble_eq_true rfl) rfl hx3 rfl ?_
      refine pm_R_cv pm_M0 (pc' := 1660) (a := 41) (ra := [.int x3, .int x2, .int x1]) (rest := [.int (-1)]) (ls' := [.ref 41, .int x1, .int x2, .int x3]) (pm_q0_20 (Nat.le_of_ble_eq_true rfl)) rfl (Or.inl rfl) pm_M280 (hh 41 (Nat.le_of_ble_eq_true rfl)) rfl (Nat.le_of_ble_eq_true rfl) (Nat.le_of_ble_eq_true rfl) rfl rfl (Nat.le_of_ble_eq_true rfl) rfl rfl ?_
      refine pm_R_lo pm_M280 (pc' := 1) rfl rfl rfl ?_
      refine pm_R_op pm_M280 (pc' := 2) (st' := [.int 0, .ref 41]) rfl rfl rfl ?_
      refine pm_R_put pm_M280 (pc' := 5) (fs' := [.int 0, .ref 42, .ref 43, .ref 44, .ref 45, .ref 46, .ref 47, .ref 48, .ref 49, .ref 50, .int 0, .int 0, .int 0, .int 0, .int 0, .long 0, .int 0, .int 0, .int 0, .ref 51, .ref 52, .int 0, .int 0, .int 0, .int 0, .ref 53, .int 0, .int 0, .ref 54, .ref 55, .ref 56, .int 0, .ref 57, .ref 58, .ref 59, .ref 60, .ref 61, .ref 62, .ref 63, .ref 64, .ref 65, .ref 66, .int 0, .int 0, .int 0, .ref 67, .ref 68, .int 0, .ref 69, .int 0, .int 0, .ref 70, .ref 71]) rfl rfl rfl (hh 41 (Nat.le_of_ble_eq_true rfl)) (Nat.le_of_ble_eq_true rfl) (Nat.le_of_ble_eq_true rfl) (Nat.le_of_ble_eq_true rfl) rfl (Or.inl rfl) rfl rfl ?_
      refine pm_R_lo pm_M280 (pc' := 6) rfl rfl rfl ?_
      refine pm_R_lo pm_M280 (pc' := 7) rfl rfl rfl ?_
      refine pm_R_lo pm_M280 (pc' := 8) rfl rfl rfl ?_
      refine pm_R_cv pm_M280 (pc' := 11) (a := 41) (ra := [.int x2, .int x1]) (rest := []) (ls' := [.ref 41, .int x1, .int x2]) rfl rfl (Or.inl rfl) pm_M275 rfl rfl (Nat.le_of_ble_eq_true rfl) (Nat.le_of_ble_eq_true rfl) rfl rfl (Nat.le_of_ble_eq_true rfl) rfl rfl ?_
      refine pm_R_lo pm_M275 (pc' := 1) rfl rfl rfl ?_
      refine pm_R_op pm_M275 (pc' := 2) (st' := [.int 3, .ref 41]) rfl rfl rfl ?_
      refine pm_R_lo pm_M275 (pc' := 3) rfl rfl rfl ?_
      refine pm_R_cv pm_M275 (pc' := 6) (a := 41) (ra := [.int x1, .int 3]) (rest := []) (ls' := [.ref 41, .int 3, .int x1]) rfl rfl (Or.inl rfl) pm_M177 rfl rfl (Nat.le_of_ble_eq_true rfl) (Nat.le_of_ble_eq_true rfl) rfl rfl (Nat.le_of_ble_eq_true rfl) rfl rfl ?_
      refine pm_R_lo pm_M177 (pc' := 1) rfl rfl rfl ?_
      refine pm_R_op pm_M177 (pc' := 2) (st' := [.int 0, .int x1]) rfl rfl rfl ?_
      refine pm_R_lo pm_M177 (pc' := 3) rfl rfl rfl ?_
      refine pm_R_get pm_M177 (pc' := 6) (v := .ref 46) rfl rfl rfl (Nat.le_of_ble_eq_true rfl) (Nat.le_of_ble_eq_true rfl) rfl rfl ?_
      refine pm_R_lo pm_M177 (pc' := 7) rfl rfl rfl ?_
      refine pm_R_iald pm_M177 (pc' := 8) (v := 0) rfl (hh 46 (Nat.le_of_ble_eq_true rfl)) (Nat.le_of_ble_eq_true rfl) rfl rfl rfl ?_
      refine pm_R_op pm_M177 (pc' := 9) (st' := [.int 1, .int 0, .int 0, .int x1]) rfl rfl rfl ?_
      refine pm_R_op pm_M177 (pc' := 10) (st' := [.int (-1), .int 0, .int x1]) rfl rfl rfl ?_
      refine pm_R_cs pm_M177 (pc' := 13) (ra := [.int (-1), .int 0, .int x1]) (rest := []) (ls' := [.int x1, .int 0, .int (-1)]) rfl rfl (Or.inl rfl) pm_M174 rfl rfl (Nat.le_of_ble_eq_true rfl) rfl rfl ?_
      refine pm_R_lo pm_M174 (pc' := 1) rfl rfl rfl ?_
      refine pm_R_lo pm_M174 (pc' := 2) rfl rfl rfl ?_
      refine pm_R_icmp pm_M174 (t := 14) (pc' := 5) rfl rfl rfl (fun c_3 => ?_) (fun c_3 => by exact absurd c_1 c_3)
      refine pm_R_op pm_M174 (pc' := 15) (st' := [.int 0]) rfl rfl rfl ?_
      refine pm_R_ret pm_M174 (r := some (.int 0)) rfl rfl ?_
      show pm_R _ 177 13 [.ref 41, .int 3, .int x1] [.int 0] _ _
      refine pm_R_ret pm_M177 (r := some (.int 0)) rfl rfl ?_
      show pm_R _ 275 6 [.ref 41, .int x1, .int x2] [.int 0] _ _
      refine pm_R_br pm_M275 (pc' := 17) (st' := []) rfl rfl ?_
      refine pm_R_op pm_M275 (pc' := 18) (st' := [.int 0]) rfl rfl rfl ?_
      refine pm_R_ret pm_M275 (r := some (.int 0)) rfl rfl ?_
      show pm_R _ 280 11 [.ref 41, .int x1, .int x2, .int x3] [.int 0] _ _
      refine pm_R_br pm_M280 (pc' := 36) (st' := []) rfl rfl ?_
      refine pm_R_op pm_M280 (pc' := 37) (st' := [.int (-1)]) rfl rfl rfl ?_
      refine pm_R_ret pm_M280 (r := some (.int (-1))) rfl rfl ?_
      show pm_R _ 0 1660 [.ref 0, .ref 16, .ref 41, .int 0] [.int (-1), .int (-1)] _ _
      refine pm_R_br pm_M0 (pc' := 2121) (st' := []) (pm_q0_20 (Nat.le_of_ble_eq_true rfl)) rfl ?_
      exact p1_tail (hh 0 (Nat.le_of_ble_eq_true rfl)) (Nat.le_of_ble_eq_true rfl) (Nat.le_of_ble_eq_true rfl) (Nat.le_of_ble_eq_true rfl)
    · refine pm_R_lo pm_M139 (pc' := 5) rfl rfl rfl ?_
      refine pm_R_lo pm_M139 (pc' := 6) rfl rfl rfl ?_
      refine pm_R_get pm_M139 (pc' := 9) (v := .ref 17) rfl rfl (hh 16 (Nat.le_of_ble_eq_true rfl)) (Nat.le_of_ble_eq_true rfl) (Nat.le_of_ble_eq_true rfl) rfl rfl ?_
      refine pm_R_get pm_M139 (pc' := 12) (v := .ref 23) rfl rfl (hh 17 (Nat.le_of_ble_eq_true rfl)) (Nat.le_of_ble_eq_true rfl) (Nat.le_of_ble_eq_true rfl) rfl rfl ?_
      refine pm_R_op pm_M139 (pc' := 13) (st' := [.int 2, .ref 23, .int x2]) rfl rfl rfl ?_
      refine pm_R_iald pm_M139 (pc' := 14) (v := 0) rfl (hh 23 (Nat.le_of_ble_eq_true rfl)) (Nat.le_of_ble_eq_true rfl) rfl rfl rfl ?_
      refine pm_R_icmp pm_M139 (t := 21) (pc' := 17) rfl rfl rfl (fun c_4 => by exact absurd c_4 c_2) (fun c_4 => ?_)
      refine pm_R_op pm_M139 (pc' := 18) (st' := [.null]) rfl rfl rfl ?_
      refine pm_R_br pm_M139 (pc' := 30) rfl rfl ?_
      refine pm_R_ret pm_M139 (r := some (.null)) rfl rfl ?_
      show pm_R _ 167 12 [.ref 16, .int x1, .int x2, .int x3, .null, pm_no, pm_no, pm_no] [.null] _ _
      refine pm_R_lo pm_M167 (pc' := 14) (ls' := [.ref 16, .int x1, .int x2, .int x3, .null, .null, pm_no, pm_no]) (st' := []) rfl rfl rfl ?_
      refine pm_R_lo pm_M167 (pc' := 16) rfl rfl rfl ?_
      refine pm_R_br pm_M167 (pc' := 38) rfl rfl ?_
      refine pm_R_op pm_M167 (pc' := 39) (st' := [.int (-1)]) rfl rfl rfl ?_
      refine pm_R_ret pm_M167 (r := some (.int (-1))) rfl rfl ?_
      show pm_R _ 0 1641 [.ref 0, .ref 16, .ref 41, .int 0] [.int (-1)] _ _
      refine pm_R_lo pm_M0 (pc' := 1642) (pm_q0_20 (Nat.le_of_ble_eq_true rfl)) rfl rfl ?_
      refine pm_R_lo pm_M0 (pc' := 1643) (pm_q0_20 (Nat.le_of_ble_eq_true rfl)) rfl rfl ?_
      refine pm_R_lo pm_M0 (pc' := 1644) (pm_q0_20 (Nat.le_of_ble_eq_true rfl)) rfl rfl ?_
      refine pm_R_op pm_M0 (pc' := 1645) (st' := [.int 1, .int 0, .ref 0, .ref 41, .int (-1)]) (pm_q0_20 (Nat.le_of_ble_eq_true rfl)) rfl rfl ?_
      refine pm_R_op pm_M0 (pc' := 1646) (st' := [.int 1, .ref 0, .ref 41, .int (-1)]) (pm_q0_20 (Nat.le_of_ble_eq_true rfl)) rfl rfl ?_
      refine pm_R_iald pm_M0 (pc' := 1647) (v := x1) (pm_q0_20 (Nat.le_of_ble_eq_true rfl)) (hh 0 (Nat.le_of_ble_eq_true rfl)) (Nat.le_of_ble_eq_true rfl) rfl hx1 rfl ?_
      refine pm_R_lo pm_M0 (pc' := 1648) (pm_q0_20 (Nat.le_of_ble_eq_true rfl)) rfl rfl ?_
      refine pm_R_lo pm_M0 (pc' := 1649) (pm_q0_20 (Nat.le_of_ble_eq_true rfl)) rfl rfl ?_
      refine pm_R_op pm_M0 (pc' := 1650) (st' := [.int 2, .int 0, .ref 0, .int x1, .ref 41, .int (-1)]) (pm_q0_20 (Nat.le_of_ble_eq_true rfl)) rfl rfl ?_
      refine pm_R_op pm_M0 (pc' := 1651) (st' := [.int 2, .ref 0, .int x1, .ref 41, .int (-1)]) (pm_q0_20 (Nat.le_of_ble_eq_true rfl)) rfl rfl ?_
      refine pm_R_iald pm_M0 (pc' := 1652) (v := x2) (pm_q0_20 (Nat.le_of_ble_eq_true rfl)) (hh 0 (Nat.le_of_ble_eq_true rfl)) (Nat.le_of_ble_eq_true rfl) rfl hx2 rfl ?_
      refine pm_R_lo pm_M0 (pc' := 1653) (pm_q0_20 (Nat.le_of_ble_eq_true rfl)) rfl rfl ?_
      refine pm_R_lo pm_M0 (pc' := 1654) (pm_q0_20 (Nat.le_of_ble_eq_true rfl)) rfl rfl ?_
      refine pm_R_op pm_M0 (pc' := 1655) (st' := [.int 3, .int 0, .ref 0, .int x2, .int x1, .ref 41, .int (-1)]) (pm_q0_20 (Nat.le_of_ble_eq_true rfl)) rfl rfl ?_
      refine pm_R_op pm_M0 (pc' := 1656) (st' := [.int 3, .ref 0, .int x2, .int x1, .ref 41, .int (-1)]) (pm_q0_20 (Nat.le_of_ble_eq_true rfl)) rfl rfl ?_
      refine pm_R_iald pm_M0 (pc' := 1657) (v := x3) (pm_q0_20 (Nat.le_of_ble_eq_true rfl)) (hh 0 (Nat.le_of_ble_eq_true rfl)) (Nat.le_of_ble_eq_true rfl) rfl hx3 rfl ?_
      refine pm_R_cv pm_M0 (pc' := 1660) (a := 41) (ra := [.int x3, .int x2, .int x1]) (rest := [.int (-1)]) (ls' := [.ref 41, .int x1, .int x2, .int x3]) (pm_q0_20 (Nat.le_of_ble_eq_true rfl)) rfl (Or.inl rfl) pm_M280 (hh 41 (Nat.le_of_ble_eq_true rfl)) rfl (Nat.le_of_ble_eq_true rfl) (Nat.le_of_ble_eq_true rfl) rfl rfl (Nat.le_of_ble_eq_true rfl) rfl rfl ?_
      refine pm_R_lo pm_M280 (pc' := 1) rfl rfl rfl ?_
      refine pm_R_op pm_M280 (pc' := 2) (st' := [.int 0, .ref 41]) rfl rfl rfl ?_
      refine pm_R_put pm_M280 (pc' := 5) (fs' := [.int 0, .ref 42, .ref 43, .ref 44, .ref 45, .ref 46, .ref 47, .ref 48, .ref 49, .ref 50, .int 0, .int 0, .int 0, .int 0, .int 0, .long 0, .int 0, .int 0, .int 0, .ref 51, .ref 52, .int 0, .int 0, .int 0, .int 0, .ref 53, .int 0, .int 0, .ref 54, .ref 55, .ref 56, .int 0, .ref 57, .ref 58, .ref 59, .ref 60, .ref 61, .ref 62, .ref 63, .ref 64, .ref 65, .ref 66, .int 0, .int 0, .int 0, .ref 67, .ref 68, .int 0, .ref 69, .int 0, .int 0, .ref 70, .ref 71]) rfl rfl rfl (hh 41 (Nat.le_of_ble_eq_true rfl)) (Nat.le_of_ble_eq_true rfl) (Nat.le_of_ble_eq_true rfl) (Nat.le_of_ble_eq_true rfl) rfl (Or.inl rfl) rfl rfl ?_
      refine pm_R_lo pm_M280 (pc' := 6) rfl rfl rfl ?_
      refine pm_R_lo pm_M280 (pc' := 7) rfl rfl rfl ?_
      refine pm_R_lo pm_M280 (pc' := 8) rfl rfl rfl ?_
      refine pm_R_cv pm_M280 (pc' := 11) (a := 41) (ra := [.int x2, .int x1]) (rest := []) (ls' := [.ref 41, .int x1, .int x2]) rfl rfl (Or.inl rfl) pm_M275 rfl rfl (Nat.le_of_ble_eq_true rfl) (Nat.le_of_ble_eq_true rfl) rfl rfl (Nat.le_of_ble_eq_true rfl) rfl rfl ?_
      refine pm_R_lo pm_M275 (pc' := 1) rfl rfl rfl ?_
      refine pm_R_op pm_M275 (pc' := 2) (st' := [.int 3, .ref 41]) rfl rfl rfl ?_
      refine pm_R_lo pm_M275 (pc' := 3) rfl rfl rfl ?_
      refine pm_R_cv pm_M275 (pc' := 6) (a := 41) (ra := [.int x1, .int 3]) (rest := []) (ls' := [.ref 41, .int 3, .int x1]) rfl rfl (Or.inl rfl) pm_M177 rfl rfl (Nat.le_of_ble_eq_true rfl) (Nat.le_of_ble_eq_true rfl) rfl rfl (Nat.le_of_ble_eq_true rfl) rfl rfl ?_
      refine pm_R_lo pm_M177 (pc' := 1) rfl rfl rfl ?_
      refine pm_R_op pm_M177 (pc' := 2) (st' := [.int 0, .int x1]) rfl rfl rfl ?_
      refine pm_R_lo pm_M177 (pc' := 3) rfl rfl rfl ?_
      refine pm_R_get pm_M177 (pc' := 6) (v := .ref 46) rfl rfl rfl (Nat.le_of_ble_eq_true rfl) (Nat.le_of_ble_eq_true rfl) rfl rfl ?_
      refine pm_R_lo pm_M177 (pc' := 7) rfl rfl rfl ?_
      refine pm_R_iald pm_M177 (pc' := 8) (v := 0) rfl (hh 46 (Nat.le_of_ble_eq_true rfl)) (Nat.le_of_ble_eq_true rfl) rfl rfl rfl ?_
      refine pm_R_op pm_M177 (pc' := 9) (st' := [.int 1, .int 0, .int 0, .int x1]) rfl rfl rfl ?_
      refine pm_R_op pm_M177 (pc' := 10) (st' := [.int (-1), .int 0, .int x1]) rfl rfl rfl ?_
      refine pm_R_cs pm_M177 (pc' := 13) (ra := [.int (-1), .int 0, .int x1]) (rest := []) (ls' := [.int x1, .int 0, .int (-1)]) rfl rfl (Or.inl rfl) pm_M174 rfl rfl (Nat.le_of_ble_eq_true rfl) rfl rfl ?_
      refine pm_R_lo pm_M174 (pc' := 1) rfl rfl rfl ?_
      refine pm_R_lo pm_M174 (pc' := 2) rfl rfl rfl ?_
      refine pm_R_icmp pm_M174 (t := 14) (pc' := 5) rfl rfl rfl (fun c_5 => ?_) (fun c_5 => by exact absurd c_1 c_5)
      refine pm_R_op pm_M174 (pc' := 15) (st' := [.int 0]) rfl rfl rfl ?_
      refine pm_R_ret pm_M174 (r := some (.int 0)) rfl rfl ?_
      show pm_R _ 177 13 [.ref 41, .int 3, .int x1] [.int 0] _ _
      refine pm_R_ret pm_M177 (r := some (.int 0)) rfl rfl ?_
      show pm_R _ 275 6 [.ref 41, .int x1, .int x2] [.int 0] _ _
      refine pm_R_br pm_M275 (pc' := 17) (st' := []) rfl rfl ?_
      refine pm_R_op pm_M275 (pc' := 18) (st' := [.int 0]) rfl rfl rfl ?_
      refine pm_R_ret pm_M275 (r := some (.int 0)) rfl rfl ?_
      show pm_R _ 280 11 [.ref 41, .int x1, .int x2, .int x3] [.int 0] _ _
      refine pm_R_br pm_M280 (pc' := 36) (st' := []) rfl rfl ?_
      refine pm_R_op pm_M280 (pc' := 37) (st' := [.int (-1)]) rfl rfl rfl ?_
      refine pm_R_ret pm_M280 (r := some (.int (-1))) rfl rfl ?_
      show pm_R _ 0 1660 [.ref 0, .ref 16, .ref 41, .int 0] [.int (-1), .int (-1)] _ _
      refine pm_R_br pm_M0 (pc' := 2121) (st' := []) (pm_q0_20 (Nat.le_of_ble_eq_true rfl)) rfl ?_
      exact p1_tail (hh 0 (Nat.le_of_ble_eq_true rfl)) (Nat.le_of_ble_eq_true rfl) (Nat.le_of_ble_eq_true rfl) (Nat.le_of_ble_eq_true rfl)
  · refine pm_R_lo pm_M163 (pc' := 5) rfl rfl rfl ?_
    refine pm_R_lo pm_M163 (pc' := 6) rfl rfl rfl ?_
    refine pm_R_get pm_M163 (pc' := 9) (v := .ref 17) rfl rfl (hh 16 (Nat.le_of_ble_eq_true rfl)) (Nat.le_of_ble_eq_true rfl) (Nat.le_of_ble_eq_true rfl) rfl rfl ?_
    refine pm_R_get pm_M163 (pc' := 12) (v := .ref 23) rfl rfl (hh 17 (Nat.le_of_ble_eq_true rfl)) (Nat.le_of_ble_eq_true rfl) (Nat.le_of_ble_eq_true rfl) rfl rfl ?_
    refine pm_R_op pm_M163 (pc' := 13) (st' := [.int 3, .ref 23, .int x1]) rfl rfl rfl ?_
    refine pm_R_iald pm_M163 (pc' := 14) (v := 0) rfl (hh 23 (Nat.le_of_ble_eq_true rfl)) (Nat.le_of_ble_eq_true rfl) rfl rfl rfl ?_
    refine pm_R_icmp pm_M163 (t := 21) (pc' := 17) rfl rfl rfl (fun c_6 => by exact absurd c_6 c_1) (fun c_6 => ?_)
    refine pm_R_op pm_M163 (pc' := 18) (st' := [.null]) rfl rfl rfl ?_
    refine pm_R_br pm_M163 (pc' := 30) rfl rfl ?_
    refine pm_R_ret pm_M163 (r := some (.null)) rfl rfl ?_
    show pm_R _ 167 5 [.ref 16, .int x1, .int x2, .int x3, pm_no, pm_no, pm_no, pm_no] [.null] _ _
    refine pm_R_lo pm_M167 (pc' := 7) (ls' := [.ref 16, .int x1, .int x2, .int x3, .null, pm_no, pm_no, pm_no]) (st' := []) rfl rfl rfl ?_
    refine pm_R_lo pm_M167 (pc' := 8) rfl rfl rfl ?_
    refine pm_R_lo pm_M167 (pc' := 9) rfl rfl rfl ?_
    refine pm_R_cv pm_M167 (pc' := 12) (a := 16) (ra := [.int x2]) (rest := []) (ls' := [.ref 16, .int x2]) rfl rfl (Or.inl rfl) pm_M139 (hh 16 (Nat.le_of_ble_eq_true rfl)) rfl (Nat.le_of_ble_eq_true rfl) (Nat.le_of_ble_eq_true rfl) rfl rfl (Nat.le_of_ble_eq_true rfl) rfl rfl ?_
    refine pm_R_lo pm_M139 (pc' := 1) rfl rfl rfl ?_
    refine pm_R_ifc pm_M139 (t := 17) (pc' := 4) rfl rfl rfl (fun c_7 => ?_) (fun c_7 => ?_)
    · refine pm_R_op pm_M139 (pc' := 18) (st' := [.null]) rfl rfl rfl ?_
      refine pm_R_br pm_M139 (pc' := 30) rfl rfl ?_
      refine pm_R_ret pm_M139 (r := some (.null)) rfl rfl ?_
      show pm_R _ 167 12 [.ref 16, .int x1, .int x2, .int x3, .null, pm_no, pm_no, pm_no] [.null] _ _
      refine pm_R_lo pm_M167 (pc' := 14) (ls' := [.ref 16, .int x1, .int x2, .int x3, .null, .null, pm_no, pm_no]) (st' := []) rfl rfl rfl ?_
      refine pm_R_lo pm_M167 (pc' := 16) rfl rfl rfl ?_
      refine pm_R_br pm_M167 (pc' := 38) rfl rfl ?_
      refine pm_R_op pm_M167 (pc' := 39) (st' := [.int (-1)]) rfl rfl rfl ?_
      refine pm_R_ret pm_M167 (r := some (.int (-1))) rfl rfl ?_
      show pm_R _ 0 1641 [.ref 0, .ref 16, .ref 41, .int 0] [.int (-1)] _ _
      refine pm_R_lo pm_M0 (pc' := 1642) (pm_q0_20 (Nat.le_of_ble_eq_true rfl)) rfl rfl ?_
      refine pm_R_lo pm_M0 (pc' := 1643) (pm_q0_20 (Nat.le_of_ble_eq_true rfl)) rfl rfl ?_
      refine pm_R_lo pm_M0 (pc' := 1644) (pm_q0_20 (Nat.le_of_ble_eq_true rfl)) rfl rfl ?_
      refine pm_R_op pm_M0 (pc' := 1645) (st' := [.int 1, .int 0, .ref 0, .ref 41, .int (-1)]) (pm_q0_20 (Nat.le_of_ble_eq_true rfl)) rfl rfl ?_
      refine pm_R_op pm_M0 (pc' := 1646) (st' := [.int 1, .ref 0, .ref 41, .int (-1)]) (pm_q0_20 (Nat.le_of_ble_eq_true rfl)) rfl rfl ?_
      refine pm_R_iald pm_M0 (pc' := 1647) (v := x1) (pm_q0_20 (Nat.le_of_ble_eq_true rfl)) (hh 0 (Nat.le_of_ble_eq_true rfl)) (Nat.le_of_ble_eq_true rfl) rfl hx1 rfl ?_
      refine pm_R_lo pm_M0 (pc' := 1648) (pm_q0_20 (Nat.le_of_ble_eq_true rfl)) rfl rfl ?_
      refine pm_R_lo pm_M0 (pc' := 1649) (pm_q0_20 (Nat.le_of_ble_eq_true rfl)) rfl rfl ?_
      refine pm_R_op pm_M0 (pc' := 1650) (st' := [.int 2, .int 0, .ref 0, .int x1, .ref 41, .int (-1)]) (pm_q0_20 (Nat.le_of_ble_eq_true rfl)) rfl rfl ?_
      refine pm_R_op pm_M0 (pc' := 1651) (st' := [.int 2, .ref 0, .int x1, .ref 41, .int (-1)]) (pm_q0_20 (Nat.le_of_ble_eq_true rfl)) rfl rfl ?_
      refine pm_R_iald pm_M0 (pc' := 1652) (v := x2) (pm_q0_20 (Nat.le_of_ble_eq_true rfl)) (hh 0 (Nat.le_of_ble_eq_true rfl)) (Nat.le_of_ble_eq_true rfl) rfl hx2 rfl ?_
      refine pm_R_lo pm_M0 (pc' := 1653) (pm_q0_20 (Nat.le_of_ble_eq_true rfl)) rfl rfl ?_
      refine pm_R_lo pm_M0 (pc' := 1654) (pm_q0_20 (Nat.le_of_ble_eq_true rfl)) rfl rfl ?_
      refine pm_R_op pm_M0 (pc' := 1655) (st' := [.int 3, .int 0, .ref 0, .int x2, .int x1, .ref 41, .int (-1)]) (pm_q0_20 (Nat.le_of_ble_eq_true rfl)) rfl rfl ?_
      refine pm_R_op pm_M0 (pc' := 1656) (st' := [.int 3, .ref 0, .int x2, .int x1, .ref 41, .int (-1)]) (pm_q0_20 (Nat.le_of_ble_eq_true rfl)) rfl rfl ?_
      refine pm_R_iald pm_M0 (pc' := 1657) (v := x3) (pm_q0_20 (Nat.le_of_ble_eq_true rfl)) (hh 0 (Nat.le_of_ble_eq_true rfl)) (Nat.le_of_ble_eq_true rfl) rfl hx3 rfl ?_
      refine pm_R_cv pm_M0 (pc' := 1660) (a := 41) (ra := [.int x3, .int x2, .int x1]) (rest := [.int (-1)]) (ls' := [.ref 41, .int x1, .int x2, .int x3]) (pm_q0_20 (Nat.le_of_ble_eq_true rfl)) rfl (Or.inl rfl) pm_M280 (hh 41 (Nat.le_of_ble_eq_true rfl)) rfl (Nat.le_of_ble_eq_true rfl) (Nat.le_of_ble_eq_true rfl) rfl rfl (Nat.le_of_ble_eq_true rfl) rfl rfl ?_
      refine pm_R_lo pm_M280 (pc' := 1) rfl rfl rfl ?_
      refine pm_R_op pm_M280 (pc' := 2) (st' := [.int 0, .ref 41]) rfl rfl rfl ?_
      refine pm_R_put pm_M280 (pc' := 5) (fs' := [.int 0, .ref 42, .ref 43, .ref 44, .ref 45, .ref 46, .ref 47, .ref 48, .ref 49, .ref 50, .int 0, .int 0, .int 0, .int 0, .int 0, .long 0, .int 0, .int 0, .int 0, .ref 51, .ref 52, .int 0, .int 0, .int 0, .int 0, .ref 53, .int 0, .int 0, .ref 54, .ref 55, .ref 56, .int 0, .ref 57, .ref 58, .ref 59, .ref 60, .ref 61, .ref 62, .ref 63, .ref 64, .ref 65, .ref 66, .int 0, .int 0, .int 0, .ref 67, .ref 68, .int 0, .ref 69, .int 0, .int 0, .ref 70, .ref 71]) rfl rfl rfl (hh 41 (Nat.le_of_ble_eq_true rfl)) (Nat.le_of_ble_eq_true rfl) (Nat.le_of_ble_eq_true rfl) (Nat.le_of_ble_eq_true rfl) rfl (Or.inl rfl) rfl rfl ?_
      refine pm_R_lo pm_M280 (pc' := 6) rfl rfl rfl ?_
      refine pm_R_lo pm_M280 (pc' := 7) rfl rfl rfl ?_
      refine pm_R_lo pm_M280 (pc' := 8) rfl rfl rfl ?_
      refine pm_R_cv pm_M280 (pc' := 11) (a := 41) (ra := [.int x2, .int x1]) (rest := []) (ls' := [.ref 41, .int x1, .int x2]) rfl rfl (Or.inl rfl) pm_M275 rfl rfl (Nat.le_of_ble_eq_true rfl) (Nat.le_of_ble_eq_true rfl) rfl rfl (Nat.le_of_ble_eq_true rfl) rfl rfl ?_
      refine pm_R_lo pm_M275 (pc' := 1) rfl rfl rfl ?_
      refine pm_R_op pm_M275 (pc' := 2) (st' := [.int 3, .ref 41]) rfl rfl rfl ?_
      refine pm_R_lo pm_M275 (pc' := 3) rfl rfl rfl ?_
      refine pm_R_cv pm_M275 (pc' := 6) (a := 41) (ra := [.int x1, .int 3]) (rest := []) (ls' := [.ref 41, .int 3, .int x1]) rfl rfl (Or.inl rfl) pm_M177 rfl rfl (Nat.le_of_ble_eq_true rfl) (Nat.le_of_ble_eq_true rfl) rfl rfl (Nat.le_of_ble_eq_true rfl) rfl rfl ?_
      refine pm_R_lo pm_M177 (pc' := 1) rfl rfl rfl ?_
      refine pm_R_op pm_M177 (pc' := 2) (st' := [.int 0, .int x1]) rfl rfl rfl ?_
      refine pm_R_lo pm_M177 (pc' := 3) rfl rfl rfl ?_
      refine pm_R_get pm_M177 (pc' := 6) (v := .ref 46) rfl rfl rfl (Nat.le_of_ble_eq_true rfl) (Nat.le_of_ble_eq_true rfl) rfl rfl ?_
      refine pm_R_lo pm_M177 (pc' := 7) rfl rfl rfl ?_
      refine pm_R_iald pm_M177 (pc' := 8) (v := 0) rfl (hh 46 (Nat.le_of_ble_eq_true rfl)) (Nat.le_of_ble_eq_true rfl) rfl rfl rfl ?_
      refine pm_R_op pm_M177 (pc' := 9) (st' := [.int 1, .int 0, .int 0, .int x1]) rfl rfl rfl ?_
      refine pm_R_op pm_M177 (pc' := 10) (st' := [.int (-1), .int 0, .int x1]) rfl rfl rfl ?_
      refine pm_R_cs pm_M177 (pc' := 13) (ra := [.int (-1), .int 0, .int x1]) (rest := []) (ls' := [.int x1, .int 0, .int (-1)]) rfl rfl (Or.inl rfl) pm_M174 rfl rfl (Nat.le_of_ble_eq_true rfl) rfl rfl ?_
      refine pm_R_lo pm_M174 (pc' := 1) rfl rfl rfl ?_
      refine pm_R_lo pm_M174 (pc' := 2) rfl rfl rfl ?_
      refine pm_R_icmp pm_M174 (t := 14) (pc' := 5) rfl rfl rfl (fun c_8 => by exact absurd c_8 c_1) (fun c_8 => ?_)
      refine pm_R_lo pm_M174 (pc' := 6) rfl rfl rfl ?_
      refine pm_R_lo pm_M174 (pc' := 7) rfl rfl rfl ?_
      refine pm_R_icmp pm_M174 (t := 14) (pc' := 10) rfl rfl rfl (fun c_9 => ?_) (fun c_9 => by have z0 : ((-1) : Int32).toInt = -1 := (by decide); have z1 : ((0) : Int32).toInt = 0 := (by decide); have q0 := (Int32.le_iff_toInt_le.mp (Int32.not_lt.mp c_1)); have q1 := (Int32.le_iff_toInt_le.mp (Int32.not_lt.mp c_9)); exfalso; omega)
      refine pm_R_op pm_M174 (pc' := 15) (st' := [.int 0]) rfl rfl rfl ?_
      refine pm_R_ret pm_M174 (r := some (.int 0)) rfl rfl ?_
      show pm_R _ 177 13 [.ref 41, .int 3, .int x1] [.int 0] _ _
      refine pm_R_ret pm_M177 (r := some (.int 0)) rfl rfl ?_
      show pm_R _ 275 6 [.ref 41, .int x1, .int x2] [.int 0] _ _
      refine pm_R_br pm_M275 (pc' := 17) (st' := []) rfl rfl ?_
      refine pm_R_op pm_M275 (pc' := 18) (st' := [.int 0]) rfl rfl rfl ?_
      refine pm_R_ret pm_M275 (r := some (.int 0)) rfl rfl ?_
      show pm_R _ 280 11 [.ref 41, .int x1, .int x2, .int x3] [.int 0] _ _
      refine pm_R_br pm_M280 (pc' := 36) (st' := []) rfl rfl ?_
      refine pm_R_op pm_M280 (pc' := 37) (st' := [.int (-1)]) rfl rfl rfl ?_
      refine pm_R_ret pm_M280 (r := some (.int (-1))) rfl rfl ?_
      show pm_R _ 0 1660 [.ref 0, .ref 16, .ref 41, .int 0] [.int (-1), .int (-1)] _ _
      refine pm_R_br pm_M0 (pc' := 2121) (st' := []) (pm_q0_20 (Nat.le_of_ble_eq_true rfl)) rfl ?_
      exact p1_tail (hh 0 (Nat.le_of_ble_eq_true rfl)) (Nat.le_of_ble_eq_true rfl) (Nat.le_of_ble_eq_true rfl) (Nat.le_of_ble_eq_true rfl)
    · refine pm_R_lo pm_M139 (pc' := 5) rfl rfl rfl ?_
      refine pm_R_lo pm_M139 (pc' := 6) rfl rfl rfl ?_
      refine pm_R_get pm_M139 (pc' := 9) (v := .ref 17) rfl rfl (hh 16 (Nat.le_of_ble_eq_true rfl)) (Nat.le_of_ble_eq_true rfl) (Nat.le_of_ble_eq_true rfl) rfl rfl ?_
      refine pm_R_get pm_M139 (pc' := 12) (v := .ref 23) rfl rfl (hh 17 (Nat.le_of_ble_eq_true rfl)) (Nat.le_of_ble_eq_true rfl) (Nat.le_of_ble_eq_true rfl) rfl rfl ?_
      refine pm_R_op pm_M139 (pc' := 13) (st' := [.int 2, .ref 23, .int x2]) rfl rfl rfl ?_
      refine pm_R_iald pm_M139 (pc' := 14) (v := 0) rfl (hh 23 (Nat.le_of_ble_eq_true rfl)) (Nat.le_of_ble_eq_true rfl) rfl rfl rfl ?_
      refine pm_R_icmp pm_M139 (t := 21) (pc' := 17) rfl rfl rfl (fun c_10 => by exact absurd c_10 c_7) (fun c_10 => ?_)
      refine pm_R_op pm_M139 (pc' := 18) (st' := [.null]) rfl rfl rfl ?_
      refine pm_R_br pm_M139 (pc' := 30) rfl rfl ?_
      refine pm_R_ret pm_M139 (r := some (.null)) rfl rfl ?_
      show pm_R _ 167 12 [.ref 16, .int x1, .int x2, .int x3, .null, pm_no, pm_no, pm_no] [.null] _ _
      refine pm_R_lo pm_M167 (pc' := 14) (ls' := [.ref 16, .int x1, .int x2, .int x3, .null, .null, pm_no, pm_no]) (st' := []) rfl rfl rfl ?_
      refine pm_R_lo pm_M167 (pc' := 16) rfl rfl rfl ?_
      refine pm_R_br pm_M167 (pc' := 38) rfl rfl ?_
      refine pm_R_op pm_M167 (pc' := 39) (st' := [.int (-1)]) rfl rfl rfl ?_
      refine pm_R_ret pm_M167 (r := some (.int (-1))) rfl rfl ?_
      show pm_R _ 0 1641 [.ref 0, .ref 16, .ref 41, .int 0] [.int (-1)] _ _
      refine pm_R_lo pm_M0 (pc' := 1642) (pm_q0_20 (Nat.le_of_ble_eq_true rfl)) rfl rfl ?_
      refine pm_R_lo pm_M0 (pc' := 1643) (pm_q0_20 (Nat.le_of_ble_eq_true rfl)) rfl rfl ?_
      refine pm_R_lo pm_M0 (pc' := 1644) (pm_q0_20 (Nat.le_of_ble_eq_true rfl)) rfl rfl ?_
      refine pm_R_op pm_M0 (pc' := 1645) (st' := [.int 1, .int 0, .ref 0, .ref 41, .int (-1)]) (pm_q0_20 (Nat.le_of_ble_eq_true rfl)) rfl rfl ?_
      refine pm_R_op pm_M0 (pc' := 1646) (st' := [.int 1, .ref 0, .ref 41, .int (-1)]) (pm_q0_20 (Nat.le_of_ble_eq_true rfl)) rfl rfl ?_
      refine pm_R_iald pm_M0 (pc' := 1647) (v := x1) (pm_q0_20 (Nat.le_of_ble_eq_true rfl)) (hh 0 (Nat.le_of_ble_eq_true rfl)) (Nat.le_of_ble_eq_true rfl) rfl hx1 rfl ?_
      refine pm_R_lo pm_M0 (pc' := 1648) (pm_q0_20 (Nat.le_of_ble_eq_true rfl)) rfl rfl ?_
      refine pm_R_lo pm_M0 (pc' := 1649) (pm_q0_20 (Nat.le_of_ble_eq_true rfl)) rfl rfl ?_
      refine pm_R_op pm_M0 (pc' := 1650) (st' := [.int 2, .int 0, .ref 0, .int x1, .ref 41, .int (-1)]) (pm_q0_20 (Nat.le_of_ble_eq_true rfl)) rfl rfl ?_
      refine pm_R_op pm_M0 (pc' := 1651) (st' := [.int 2, .ref 0, .int x1, .ref 41, .int (-1)]) (pm_q0_20 (Nat.le_of_ble_eq_true rfl)) rfl rfl ?_
      refine pm_R_iald pm_M0 (pc' := 1652) (v := x2) (pm_q0_20 (Nat.le_of_ble_eq_true rfl)) (hh 0 (Nat.le_of_ble_eq_true rfl)) (Nat.le_of_ble_eq_true rfl) rfl hx2 rfl ?_
      refine pm_R_lo pm_M0 (pc' := 1653) (pm_q0_20 (Nat.le_of_ble_eq_true rfl)) rfl rfl ?_
      refine pm_R_lo pm_M0 (pc' := 1654) (pm_q0_20 (Nat.le_of_ble_eq_true rfl)) rfl rfl ?_
      refine pm_R_op pm_M0 (pc' := 1655) (st' := [.int 3, .int 0, .ref 0, .int x2, .int x1, .ref 41, .int (-1)]) (pm_q0_20 (Nat.le_of_ble_eq_true rfl)) rfl rfl ?_
      refine pm_R_op pm_M0 (pc' := 1656) (st' := [.int 3, .ref 0, .int x2, .int x1, .ref 41, .int (-1)]) (pm_q0_20 (Nat.le_of_ble_eq_true rfl)) rfl rfl ?_
      refine pm_R_iald pm_M0 (pc' := 1657) (v := x3) (pm_q0_20 (Nat.le_of_ble_eq_true rfl)) (hh 0 (Nat.le_of_ble_eq_true rfl)) (Nat.le_of_ble_eq_true rfl) rfl hx3 rfl ?_
      refine pm_R_cv pm_M0 (pc' := 1660) (a := 41) (ra := [.int x3, .int x2, .int x1]) (rest := [.int (-1)]) (ls' := [.ref 41, .int x1, .int x2, .int x3]) (pm_q0_20 (Nat.le_of_ble_eq_true rfl)) rfl (Or.inl rfl) pm_M280 (hh 41 (Nat.le_of_ble_eq_true rfl)) rfl (Nat.le_of_ble_eq_true rfl) (Nat.le_of_ble_eq_true rfl) rfl rfl (Nat.le_of_ble_eq_true rfl) rfl rfl ?_
      refine pm_R_lo pm_M280 (pc' := 1) rfl rfl rfl ?_
      refine pm_R_op pm_M280 (pc' := 2) (st' := [.int 0, .ref 41]) rfl rfl rfl ?_
      refine pm_R_put pm_M280 (pc' := 5) (fs' := [.int 0, .ref 42, .ref 43, .ref 44, .ref 45, .ref 46, .ref 47, .ref 48, .ref 49, .ref 50, .int 0, .int 0, .int 0, .int 0, .int 0, .long 0, .int 0, .int 0, .int 0, .ref 51, .ref 52, .int 0, .int 0, .int 0, .int 0, .ref 53, .int 0, .int 0, .ref 54, .ref 55, .ref 56, .int 0, .ref 57, .ref 58, .ref 59, .ref 60, .ref 61, .ref 62, .ref 63, .ref 64, .ref 65, .ref 66, .int 0, .int 0, .int 0, .ref 67, .ref 68, .int 0, .ref 69, .int 0, .int 0, .ref 70, .ref 71]) rfl rfl rfl (hh 41 (Nat.le_of_ble_eq_true rfl)) (Nat.le_of_ble_eq_true rfl) (Nat.le_of_ble_eq_true rfl) (Nat.le_of_ble_eq_true rfl) rfl (Or.inl rfl) rfl rfl ?_
      refine pm_R_lo pm_M280 (pc' := 6) rfl rfl rfl ?_
      refine pm_R_lo pm_M280 (pc' := 7) rfl rfl rfl ?_
      refine pm_R_lo pm_M280 (pc' := 8) rfl rfl rfl ?_
      refine pm_R_cv pm_M280 (pc' := 11) (a := 41) (ra := [.int x2, .int x1]) (rest := []) (ls' := [.ref 41, .int x1, .int x2]) rfl rfl (Or.inl rfl) pm_M275 rfl rfl (Nat.le_of_ble_eq_true rfl) (Nat.le_of_ble_eq_true rfl) rfl rfl (Nat.le_of_ble_eq_true rfl) rfl rfl ?_
      refine pm_R_lo pm_M275 (pc' := 1) rfl rfl rfl ?_
      refine pm_R_op pm_M275 (pc' := 2) (st' := [.int 3, .ref 41]) rfl rfl rfl ?_
      refine pm_R_lo pm_M275 (pc' := 3) rfl rfl rfl ?_
      refine pm_R_cv pm_M275 (pc' := 6) (a := 41) (ra := [.int x1, .int 3]) (rest := []) (ls' := [.ref 41, .int 3, .int x1]) rfl rfl (Or.inl rfl) pm_M177 rfl rfl (Nat.le_of_ble_eq_true rfl) (Nat.le_of_ble_eq_true rfl) rfl rfl (Nat.le_of_ble_eq_true rfl) rfl rfl ?_
      refine pm_R_lo pm_M177 (pc' := 1) rfl rfl rfl ?_
      refine pm_R_op pm_M177 (pc' := 2) (st' := [.int 0, .int x1]) rfl rfl rfl ?_
      refine pm_R_lo pm_M177 (pc' := 3) rfl rfl rfl ?_
      refine pm_R_get pm_M177 (pc' := 6) (v := .ref 46) rfl rfl rfl (Nat.le_of_ble_eq_true rfl) (Nat.le_of_ble_eq_true rfl) rfl rfl ?_
      refine pm_R_lo pm_M177 (pc' := 7) rfl rfl rfl ?_
      refine pm_R_iald pm_M177 (pc' := 8) (v := 0) rfl (hh 46 (Nat.le_of_ble_eq_true rfl)) (Nat.le_of_ble_eq_true rfl) rfl rfl rfl ?_
      refine pm_R_op pm_M177 (pc' := 9) (st' := [.int 1, .int 0, .int 0, .int x1]) rfl rfl rfl ?_
      refine pm_R_op pm_M177 (pc' := 10) (st' := [.int (-1), .int 0, .int x1]) rfl rfl rfl ?_
      refine pm_R_cs pm_M177 (pc' := 13) (ra := [.int (-1), .int 0, .int x1]) (rest := []) (ls' := [.int x1, .int 0, .int (-1)]) rfl rfl (Or.inl rfl) pm_M174 rfl rfl (Nat.le_of_ble_eq_true rfl) rfl rfl ?_
      refine pm_R_lo pm_M174 (pc' := 1) rfl rfl rfl ?_
      refine pm_R_lo pm_M174 (pc' := 2) rfl rfl rfl ?_
      refine pm_R_icmp pm_M174 (t := 14) (pc' := 5) rfl rfl rfl (fun c_11 => by exact absurd c_11 c_1) (fun c_11 => ?_)
      refine pm_R_lo pm_M174 (pc' := 6) rfl rfl rfl ?_
      refine pm_R_lo pm_M174 (pc' := 7) rfl rfl rfl ?_
      refine pm_R_icmp pm_M174 (t := 14) (pc' := 10) rfl rfl rfl (fun c_12 => ?_) (fun c_12 => by have z0 : ((-1) : Int32).toInt = -1 := (by decide); have z1 : ((0) : Int32).toInt = 0 := (by decide); have q0 := (Int32.le_iff_toInt_le.mp (Int32.not_lt.mp c_1)); have q1 := (Int32.le_iff_toInt_le.mp (Int32.not_lt.mp c_12)); exfalso; omega)
      refine pm_R_op pm_M174 (pc' := 15) (st' := [.int 0]) rfl rfl rfl ?_
      refine pm_R_ret pm_M174 (r := some (.int 0)) rfl rfl ?_
      show pm_R _ 177 13 [.ref 41, .int 3, .int x1] [.int 0] _ _
      refine pm_R_ret pm_M177 (r := some (.int 0)) rfl rfl ?_
      show pm_R _ 275 6 [.ref 41, .int x1, .int x2] [.int 0] _ _
      refine pm_R_br pm_M275 (pc' := 17) (st' := []) rfl rfl ?_
      refine pm_R_op pm_M275 (pc' := 18) (st' := [.int 0]) rfl rfl rfl ?_
      refine pm_R_ret pm_M275 (r := some (.int 0)) rfl rfl ?_
      show pm_R _ 280 11 [.ref 41, .int x1, .int x2, .int x3] [.int 0] _ _
      refine pm_R_br pm_M280 (pc' := 36) (st' := []) rfl rfl ?_
      refine pm_R_op pm_M280 (pc' := 37) (st' := [.int (-1)]) rfl rfl rfl ?_
      refine pm_R_ret pm_M280 (r := some (.int (-1))) rfl rfl ?_
      show pm_R _ 0 1660 [.ref 0, .ref 16, .ref 41, .int 0] [.int (-1), .int (-1)] _ _
      refine pm_R_br pm_M0 (pc' := 2121) (st' := []) (pm_q0_20 (Nat.le_of_ble_eq_true rfl)) rfl ?_
      exact p1_tail (hh 0 (Nat.le_of_ble_eq_true rfl)) (Nat.le_of_ble_eq_true rfl) (Nat.le_of_ble_eq_true rfl) (Nat.le_of_ble_eq_true rfl)
