set_option maxRecDepth 100000 in
set_option maxHeartbeats 40000000 in
theorem p1_c26 (xs : Nat → Int32) (f : Nat → pm_E) (hh : ∀ i, i < 72 → f i = pm_fF 7 xs i) (x0 x1 x2 x3 x4 x5 x6 : Int32) (hx0 : xs 0 = x0) (hx1 : xs 1 = x1) (hx2 : xs 2 = x2) (hx3 : xs 3 = x3) (hx4 : xs 4 = x4) (hx5 : xs 5 = x5) (hx6 : xs 6 = x6) : pm_R 100 0 1371 [.ref 0, .ref 16, .ref 41, .int 0] [] (72, 52657, f) p1_Q := by
  refine pm_R_lo pm_M0 (pc' := 1372) (pm_q0_16 (Nat.le_of_ble_eq_true rfl)) rfl rfl ?_
  refine pm_R_lo pm_M0 (pc' := 1373) (pm_q0_16 (Nat.le_of_ble_eq_true rfl)) rfl rfl ?_
  refine pm_R_lo pm_M0 (pc' := 1374) (pm_q0_16 (Nat.le_of_ble_eq_true rfl)) rfl rfl ?_
  refine pm_R_op pm_M0 (pc' := 1375) (st' := [.int 1, .int 0, .ref 0, .ref 16]) (pm_q0_16 (Nat.le_of_ble_eq_true rfl)) rfl rfl ?_
  refine pm_R_op pm_M0 (pc' := 1376) (st' := [.int 1, .ref 0, .ref 16]) (pm_q0_16 (Nat.le_of_ble_eq_true rfl)) rfl rfl ?_
  refine pm_R_iald pm_M0 (pc' := 1377) (v := x1) (pm_q0_16 (Nat.le_of_ble_eq_true rfl)) (hh 0 (Nat.le_of_ble_eq_true rfl)) (Nat.le_of_ble_eq_true rfl) rfl hx1 rfl ?_
  refine pm_R_lo pm_M0 (pc' := 1378) (pm_q0_16 (Nat.le_of_ble_eq_true rfl)) rfl rfl ?_
  refine pm_R_lo pm_M0 (pc' := 1379) (pm_q0_16 (Nat.le_of_ble_eq_true rfl)) rfl rfl ?_
  refine pm_R_op pm_M0 (pc' := 1380) (st' := [.int 2, .int 0, .ref 0, .int x1, .ref 16]) (pm_q0_16 (Nat.le_of_ble_eq_true rfl)) rfl rfl ?_
  refine pm_R_op pm_M0 (pc' := 1381) (st' := [.int 2, .ref 0, .int x1, .ref 16]) (pm_q0_17 (Nat.le_of_ble_eq_true rfl)) rfl rfl ?_
  refine pm_R_iald pm_M0 (pc' := 1382) (v := x2) (pm_q0_17 (Nat.le_of_ble_eq_true rfl)) (hh 0 (Nat.le_of_ble_eq_true rfl)) (Nat.le_of_ble_eq_true rfl) rfl hx2 rfl ?_
  refine pm_R_lo pm_M0 (pc' := 1383) (pm_q0_17 (Nat.le_of_ble_eq_true rfl)) rfl rfl ?_
  refine pm_R_lo pm_M0 (pc' := 1384) (pm_q0_17 (Nat.le_of_ble_eq_true rfl)) rfl rfl ?_
  refine pm_R_op pm_M0 (pc' := 1385) (st' := [.int 3, .int 0, .ref 0, .int x2, .int x1, .ref 16]) (pm_q0_17 (Nat.le_of_ble_eq_true rfl)) rfl rfl ?_
  refine pm_R_op pm_M0 (pc' := 1386) (st' := [.int 3, .ref 0, .int x2, .int x1, .ref 16]) (pm_q0_17 (Nat.le_of_ble_eq_true rfl)) rfl rfl ?_
  refine pm_R_iald pm_M0 (pc' := 1387) (v := x3) (pm_q0_17 (Nat.le_of_ble_eq_true rfl)) (hh 0 (Nat.le_of_ble_eq_true rfl)) (Nat.le_of_ble_eq_true rfl) rfl hx3 rfl ?_
  refine pm_R_cv pm_M0 (pc' := 1390) (a := 16) (ra := [.int x3, .int x2, .int x1]) (rest := []) (ls' := [.ref 16, .int x1, .int x2, .int x3]) (pm_q0_17 (Nat.le_of_ble_eq_true rfl)) rfl (Or.inl rfl) pm_M151 (hh 16 (Nat.le_of_ble_eq_true rfl)) rfl (Nat.le_of_ble_eq_true rfl) (Nat.le_of_ble_eq_true rfl) rfl rfl (Nat.le_of_ble_eq_true rfl) rfl rfl ?_
  refine pm_R_lo pm_M151 (pc' := 1) rfl rfl rfl ?_
  refine pm_R_lo pm_M151 (pc' := 2) rfl rfl rfl ?_
  refine pm_R_lo pm_M151 (pc' := 3) rfl rfl rfl ?_
  refine pm_R_lo pm_M151 (pc' := 4) rfl rfl rfl ?_
  refine pm_R_cv pm_M151 (pc' := 7) (a := 16) (ra := [.int x3, .int x2, .int x1]) (rest := []) (ls' := [.ref 16, .int x1, .int x2, .int x3, pm_no]) rfl rfl (Or.inl rfl) pm_M152 (hh 16 (Nat.le_of_ble_eq_true rfl)) rfl (Nat.le_of_ble_eq_true rfl) (Nat.le_of_ble_eq_true rfl) rfl rfl (Nat.le_of_ble_eq_true rfl) rfl rfl ?_
  refine pm_R_lo pm_M152 (pc' := 1) rfl rfl rfl ?_
  refine pm_R_lo pm_M152 (pc' := 2) rfl rfl rfl ?_
  refine pm_R_cv pm_M152 (pc' := 5) (a := 16) (ra := [.int x1]) (rest := []) (ls' := [.ref 16, .int x1]) rfl rfl (Or.inl rfl) pm_M139 (hh 16 (Nat.le_of_ble_eq_true rfl)) rfl (Nat.le_of_ble_eq_true rfl) (Nat.le_of_ble_eq_true rfl) rfl rfl (Nat.le_of_ble_eq_true rfl) rfl rfl ?_
  refine pm_R_lo pm_M139 (pc' := 1) rfl rfl rfl ?_
  refine pm_R_ifc pm_M139 (t := 17) (pc' := 4) rfl rfl rfl (fun c_1 => ?_) (fun c_1 => ?_)
  · refine pm_R_op pm_M139 (pc' := 18) (st' := [.null]) rfl rfl rfl ?_
    refine pm_R_br pm_M139 (pc' := 30) rfl rfl ?_
    refine pm_R_ret pm_M139 (r := some (.null)) rfl rfl ?_
    show pm_R _ 152 5 [.ref 16, .int x1, .int x2, .int x3, pm_no] [.null] _ _
    refine pm_R_lo pm_M152 (pc' := 7) (ls' := [.ref 16, .int x1, .int x2, .int x3, .null]) (st' := []) rfl rfl rfl ?_
    refine pm_R_lo pm_M152 (pc' := 9) rfl rfl rfl ?_
    refine pm_R_br pm_M152 (pc' := 35) rfl rfl ?_
    refine pm_R_op pm_M152 (pc' := 36) (st' := [.int (-1)]) rfl rfl rfl ?_
    refine pm_R_ret pm_M152 (r := some (.int (-1))) rfl rfl ?_
    show pm_R _ 151 7 [.ref 16, .int x1, .int x2, .int x3] [.int (-1)] _ _
    refine pm_R_ret pm_M151 (r := some (.int (-1))) rfl rfl ?_
    show pm_R _ 0 1390 [.ref 0, .ref 16, .ref 41, .int 0] [.int (-1)] _ _
    refine pm_R_lo pm_M0 (pc' := 1391) (pm_q0_17 (Nat.le_of_ble_eq_true rfl)) rfl rfl ?_
    refine pm_R_lo pm_M0 (pc' := 1392) (pm_q0_17 (Nat.le_of_ble_eq_true rfl)) rfl rfl ?_
    refine pm_R_lo pm_M0 (pc' := 1393) (pm_q0_17 (Nat.le_of_ble_eq_true rfl)) rfl rfl ?_
    refine pm_R_op pm_M0 (pc' := 1394) (st' := [.int 1, .int 0, .ref 0, .ref 41, .int (-1)]) (pm_q0_17 (Nat.le_of_ble_eq_true rfl)) rfl rfl ?_
    refine pm_R_op pm_M0 (pc' := 1395) (st' := [.int 1, .ref 0, .ref 41, .int (-1)]) (pm_q0_17 (Nat.le_of_ble_eq_true rfl)) rfl rfl ?_
    refine pm_R_iald pm_M0 (pc' := 1396) (v := x1) (pm_q0_17 (Nat.le_of_ble_eq_true rfl)) (hh 0 (Nat.le_of_ble_eq_true rfl)) (Nat.le_of_ble_eq_true rfl) rfl hx1 rfl ?_
    refine pm_R_lo pm_M0 (pc' := 1397) (pm_q0_17 (Nat.le_of_ble_eq_true rfl)) rfl rfl ?_
    refine pm_R_lo pm_M0 (pc' := 1398) (pm_q0_17 (Nat.le_of_ble_eq_true rfl)) rfl rfl ?_
    refine pm_R_op pm_M0 (pc' := 1399) (st' := [.int 2, .int 0, .ref 0, .int x1, .ref 41, .int (-1)]) (pm_q0_17 (Nat.le_of_ble_eq_true rfl)) rfl rfl ?_
    refine pm_R_op pm_M0 (pc' := 1400) (st' := [.int 2, .ref 0, .int x1, .ref 41, .int (-1)]) (pm_q0_17 (Nat.le_of_ble_eq_true rfl)) rfl rfl ?_
    refine pm_R_iald pm_M0 (pc' := 1401) (v := x2) (pm_q0_17 (Nat.le_of_ble_eq_true rfl)) (hh 0 (Nat.le_of_ble_eq_true rfl)) (Nat.le_of_ble_eq_true rfl) rfl hx2 rfl ?_
    refine pm_R_lo pm_M0 (pc' := 1402) (pm_q0_17 (Nat.le_of_ble_eq_true rfl)) rfl rfl ?_
    refine pm_R_lo pm_M0 (pc' := 1403) (pm_q0_17 (Nat.le_of_ble_eq_true rfl)) rfl rfl ?_
    refine pm_R_op pm_M0 (pc' := 1404) (st' := [.int 3, .int 0, .ref 0, .int x2, .int x1, .ref 41, .int (-1)]) (pm_q0_17 (Nat.le_of_ble_eq_true rfl)) rfl rfl ?_
    refine pm_R_op pm_M0 (pc' := 1405) (st' := [.int 3, .ref 0, .int x2, .int x1, .ref 41, .int (-1)]) (pm_q0_17 (Nat.le_of_ble_eq_true rfl)) rfl rfl ?_
    refine pm_R_iald pm_M0 (pc' := 1406) (v := x3) (pm_q0_17 (Nat.le_of_ble_eq_true rfl)) (hh 0 (Nat.le_of_ble_eq_true rfl)) (Nat.le_of_ble_eq_true rfl) rfl hx3 rfl ?_
    refine pm_R_cv pm_M0 (pc' := 1409) (a := 41) (ra := [.int x3, .int x2, .int x1]) (rest := [.int (-1)]) (ls' := [.ref 41, .int x1, .int x2, .int x3]) (pm_q0_17 (Nat.le_of_ble_eq_true rfl)) rfl (Or.inl rfl) pm_M265 (hh 41 (Nat.le_of_ble_eq_true rfl)) rfl (Nat.le_of_ble_eq_true rfl) (Nat.le_of_ble_eq_true rfl) rfl rfl (Nat.le_of_ble_eq_true rfl) rfl rfl ?_
    refine pm_R_lo pm_M265 (pc' := 1) rfl rfl rfl ?_
    refine pm_R_op pm_M265 (pc' := 2) (st' := [.int 0, .ref 41]) rfl rfl rfl ?_
    refine pm_R_put pm_M265 (pc' := 5) (fs' := [.int 0, .ref 42, .ref 43, .ref 44, .ref 45, .ref 46, .ref 47, .ref 48, .ref 49, .ref 50, .int 0, .int 0, .int 0, .int 0, .int 0, .long 0, .int 0, .int 0, .int 0, .ref 51, .ref 52, .int 0, .int 0, .int 0, .int 0, .ref 53, .int 0, .int 0, .ref 54, .ref 55, .ref 56, .int 0, .ref 57, .ref 58, .ref 59, .ref 60, .ref 61, .ref 62, .ref 63, .ref 64, .ref 65, .ref 66, .int 0, .int 0, .int 0, .ref 67, .ref 68, .int 0, .ref 69, .int 0, .int 0, .ref 70, .ref 71]) rfl rfl rfl (hh 41 (Nat.le_of_ble_eq_true rfl)) (Nat.le_of_ble_eq_true rfl) (Nat.le_of_ble_eq_true rfl) (Nat.le_of_ble_eq_true rfl) rfl (Or.inl rfl) rfl rfl ?_
    refine pm_R_lo pm_M265 (pc' := 6) rfl rfl rfl ?_
    refine pm_R_lo pm_M265 (pc' := 7) rfl rfl rfl ?_
    refine pm_R_lo pm_M265 (pc' := 8) rfl rfl rfl ?_
    refine pm_R_lo pm_M265 (pc' := 9) rfl rfl rfl ?_
    refine pm_R_cv pm_M265 (pc' := 12) (a := 41) (ra := [.int x3, .int x2, .int x1]) (rest := []) (ls' := [.ref 41, .int x1, .int x2, .int x3, pm_no, pm_no, pm_no, pm_no, pm_no]) rfl rfl (Or.inl rfl) pm_M266 rfl rfl (Nat.le_of_ble_eq_true rfl) (Nat.le_of_ble_eq_true rfl) rfl rfl (Nat.le_of_ble_eq_true rfl) rfl rfl ?_
    refine pm_R_lo pm_M266 (pc' := 1) rfl rfl rfl ?_
    refine pm_R_lo pm_M266 (pc' := 2) rfl rfl rfl ?_
    refine pm_R_cv pm_M266 (pc' := 5) (a := 41) (ra := [.int x1]) (rest := []) (ls' := [.ref 41, .int x1, pm_no, pm_no, pm_no, pm_no]) rfl rfl (Or.inl rfl) pm_M254 rfl rfl (Nat.le_of_ble_eq_true rfl) (Nat.le_of_ble_eq_true rfl) rfl rfl (Nat.le_of_ble_eq_true rfl) rfl rfl ?_
    refine pm_R_lo pm_M254 (pc' := 1) rfl rfl rfl ?_
    refine pm_R_op pm_M254 (pc' := 2) (st' := [.int 2, .ref 41]) rfl rfl rfl ?_
    refine pm_R_lo pm_M254 (pc' := 3) rfl rfl rfl ?_
    refine pm_R_cv pm_M254 (pc' := 6) (a := 41) (ra := [.int x1, .int 2]) (rest := []) (ls' := [.ref 41, .int 2, .int x1]) rfl rfl (Or.inl rfl) pm_M177 rfl rfl (Nat.le_of_ble_eq_true rfl) (Nat.le_of_ble_eq_true rfl) rfl rfl (Nat.le_of_ble_eq_true rfl) rfl rfl ?_
    refine pm_R_lo pm_M177 (pc' := 1) rfl rfl rfl ?_
    refine pm_R_op pm_M177 (pc' := 2) (st' := [.int 0, .int x1]) rfl rfl rfl ?_
    refine pm_R_lo pm_M177 (pc' := 3) rfl rfl rfl ?_
    refine pm_R_get pm_M177 (pc' := 6) (v := .ref 46) rfl rfl rfl (Nat.le_of_ble_eq_true rfl) (Nat.le_of_ble_eq_true rfl) rfl rfl ?_
    refine pm_R_lo pm_M177 (pc' := 7) rfl rfl rfl ?_
    refine pm_R_iald pm_M177 (pc' := 8) (v := 0) rfl (hh 46 (Nat.le_of_ble_eq_true rfl)) (Nat.le_of_ble_eq_true rfl) rfl rfl rfl ?_
    refine pm_R_op pm_M177 (pc' := 9) (st' := [.int 1, .int 0, .int 0, .int x1]) rfl rfl rfl ?_
    refine pm_R_op pm_M177 (pc' := 10) (st' := [.int (-1), .int 0, .int x1]) rfl rfl rfl ?_
    refine pm_R_cs pm_M177 (pc' := 13) (ra := [.int (-1), .int 0, .int x1]) (rest := []) (ls' := [.int x1, .int 0, .int (-1)]) rfl rfl (Or.inl rfl) pm_M174 rfl rfl (Nat.le_of_ble_eq_true rfl) rfl rfl ?_
    refine pm_R_lo pm_M174 (pc' := 1) rfl rfl rfl ?_
    refine pm_R_lo pm_M174 (pc' := 2) rfl rfl rfl ?_
    refine pm_R_icmp pm_M174 (t := 14) (pc' := 5) rfl rfl rfl (fun c_2 => ?_) (fun c_2 => by exact absurd c_1 c_2)
    refine pm_R_op pm_M174 (pc' := 15) (st' := [.int 0]) rfl rfl rfl ?_
    refine pm_R_ret pm_M174 (r := some (.int 0)) rfl rfl ?_
    show pm_R _ 177 13 [.ref 41, .int 2, .int x1] [.int 0] _ _
    refine pm_R_ret pm_M177 (r := some (.int 0)) rfl rfl ?_
    show pm_R _ 254 6 [.ref 41, .int x1, pm_no, pm_no, pm_no, pm_no] [.int 0] _ _
    refine pm_R_br pm_M254 (pc' := 9) (st' := []) rfl rfl ?_
    refine pm_R_op pm_M254 (pc' := 10) (st' := [.int 0]) rfl rfl rfl ?_
    refine pm_R_ret pm_M254 (r := some (.int 0)) rfl rfl ?_
    show pm_R _ 266 5 [.ref 41, .int x1, .int x2, .int x3, pm_no, pm_no, pm_no, pm_no, pm_no] [.int 0] _ _
    refine pm_R_br pm_M266 (pc' := 29) (st' := []) rfl rfl ?_
    refine pm_R_op pm_M266 (pc' := 30) (st' := [.int (-1)]) rfl rfl rfl ?_
    refine pm_R_ret pm_M266 (r := some (.int (-1))) rfl rfl ?_
    show pm_R _ 265 12 [.ref 41, .int x1, .int x2, .int x3] [.int (-1)] _ _
    refine pm_R_ret pm_M265 (r := some (.int (-1))) rfl rfl ?_
    show pm_R _ 0 1409 [.ref 0, .ref 16, .ref 41, .int 0] [.int (-1), .int (-1)] _ _
    refine pm_R_br pm_M0 (pc' := 2121) (st' := []) (pm_q0_17 (Nat.le_of_ble_eq_true rfl)) rfl ?_
    exact p1_tail (hh 0 (Nat.le_of_ble_eq_true rfl)) (Nat.le_of_ble_eq_true rfl) (Nat.le_of_ble_eq_true rfl) (Nat.le_of_ble_eq_true rfl)
  · refine pm_R_lo pm_M139 (pc' := 5) rfl rfl rfl ?_
    refine pm_R_lo pm_M139 (pc' := 6) rfl rfl rfl ?_
    refine pm_R_get pm_M139 (pc' := 9) (v := .ref 17) rfl rfl (hh 16 (Nat.le_of_ble_eq_true rfl)) (Nat.le_of_ble_eq_true rfl) (Nat.le_of_ble_eq_true rfl) rfl rfl ?_
    refine pm_R_get pm_M139 (pc' := 12) (v := .ref 23) rfl rfl (hh 17 (Nat.le_of_ble_eq_true rfl)) (Nat.le_of_ble_eq_true rfl) (Nat.le_of_ble_eq_true rfl) rfl rfl ?_
    refine pm_R_op pm_M139 (pc' := 13) (st' := [.int 2, .ref 23, .int x1]) rfl rfl rfl ?_
    refine pm_R_iald pm_M139 (pc' := 14) (v := 0) rfl (hh 23 (Nat.le_of_ble_eq_true rfl)) (Nat.le_of_ble_eq_true rfl) rfl rfl rfl ?_
    refine pm_R_icmp pm_M139 (t := 21) (pc' := 17) rfl rfl rfl (fun c_3 => by exact absurd c_3 c_1) (fun c_3 => ?_)
    refine pm_R_op pm_M139 (pc' := 18) (st' := [.null]) rfl rfl rfl ?_
    refine pm_R_br pm_M139 (pc' := 30) rfl rfl ?_
    refine pm_R_ret pm_M139 (r := some (.null)) rfl rfl ?_
    show pm_R _ 152 5 [.ref 16, .int x1, .int x2, .int x3, pm_no] [.null] _ _
    refine pm_R_lo pm_M152 (pc' := 7) (ls' := [.ref 16, .int x1, .int x2, .int x3, .null]) (st' := []) rfl rfl rfl ?_
    refine pm_R_lo pm_M152 (pc' := 9) rfl rfl rfl ?_
    refine pm_R_br pm_M152 (pc' := 35) rfl rfl ?_
    refine pm_R_op pm_M152 (pc' := 36) (st' := [.int (-1)]) rfl rfl rfl ?_
    refine pm_R_ret pm_M152 (r := some (.int (-1))) rfl rfl ?_
    show pm_R _ 151 7 [.ref 16, .int x1, .int x2, .int x3] [.int (-1)] _ _
    refine pm_R_ret pm_M151 (r := some (.int (-1))) rfl rfl ?_
    show pm_R _ 0 1390 [.ref 0, .ref 16, .ref 41, .int 0] [.int (-1)] _ _
    refine pm_R_lo pm_M0 (pc' := 1391) (pm_q0_17 (Nat.le_of_ble_eq_true rfl)) rfl rfl ?_
    refine pm_R_lo pm_M0 (pc' := 1392) (pm_q0_17 (Nat.le_of_ble_eq_true rfl)) rfl rfl ?_
    refine pm_R_lo pm_M0 (pc' := 1393) (pm_q0_17 (Nat.le_of_ble_eq_true rfl)) rfl rfl ?_
    refine pm_R_op pm_M0 (pc' := 1394) (st' := [.int 1, .int 0, .ref 0, .ref 41, .int (-1)]) (pm_q0_17 (Nat.le_of_ble_eq_true rfl)) rfl rfl ?_
    refine pm_R_op pm_M0 (pc' := 1395) (st' := [.int 1, .ref 0, .ref 41, .int (-1)]) (pm_q0_17 (Nat.le_of_ble_eq_true rfl)) rfl rfl ?_
    refine pm_R_iald pm_M0 (pc' := 1396) (v := x1) (pm_q0_17 (Nat.le_of_ble_eq_true rfl)) (hh 0 (Nat.le_of_ble_eq_true rfl)) (Nat.le_of_ble_eq_true rfl) rfl hx1 rfl ?_
    refine pm_R_lo pm_M0 (pc' := 1397) (pm_q0_17 (Nat.le_of_ble_eq_true rfl)) rfl rfl ?_
    refine pm_R_lo pm_M0 (pc' := 1398) (pm_q0_17 (Nat.le_of_ble_eq_true rfl)) rfl rfl ?_
    refine pm_R_op pm_M0 (pc' := 1399) (st' := [.int 2, .int 0, .ref 0, .int x1, .ref 41, .int (-1)]) (pm_q0_17 (Nat.le_of_ble_eq_true rfl)) rfl rfl ?_
    refine pm_R_op pm_M0 (pc' := 1400) (st' := [.int 2, .ref 0, .int x1, .ref 41, .int (-1)]) (pm_q0_17 (Nat.le_of_ble_eq_true rfl)) rfl rfl ?_
    refine pm_R_iald pm_M0 (pc' := 1401) (v := x2) (pm_q0_17 (Nat.le_of_ble_eq_true rfl)) (hh 0 (Nat.le_of_ble_eq_true rfl)) (Nat.le_of_ble_eq_true rfl) rfl hx2 rfl ?_
    refine pm_R_lo pm_M0 (pc' := 1402) (pm_q0_17 (Nat.le_of_ble_eq_true rfl)) rfl rfl ?_
    refine pm_R_lo pm_M0 (pc' := 1403) (pm_q0_17 (Nat.le_of_ble_eq_true rfl)) rfl rfl ?_
    refine pm_R_op pm_M0 (pc' := 1404) (st' := [.int 3, .int 0, .ref 0, .int x2, .int x1, .ref 41, .int (-1)]) (pm_q0_17 (Nat.le_of_ble_eq_true rfl)) rfl rfl ?_
    refine pm_R_op pm_M0 (pc' := 1405) (st' := [.int 3, .ref 0, .int x2, .int x1, .ref 41, .int (-1)]) (pm_q0_17 (Nat.le_of_ble_eq_true rfl)) rfl rfl ?_
    refine pm_R_iald pm_M0 (pc' := 1406) (v := x3) (pm_q0_17 (Nat.le_of_ble_eq_true rfl)) (hh 0 (Nat.le_of_ble_eq_true rfl)) (Nat.le_of_ble_eq_true rfl) rfl hx3 rfl ?_
    refine pm_R_cv pm_M0 (pc' := 1409) (a := 41) (ra := [.int x3, .int x2, .int x1]) (rest := [.int (-1)]) (ls' := [.ref 41, .int x1, .int x2, .int x3]) (pm_q0_17 (Nat.le_of_ble_eq_true rfl)) rfl (Or.inl rfl) pm_M265 (hh 41 (Nat.le_of_ble_eq_true rfl)) rfl (Nat.le_of_ble_eq_true rfl) (Nat.le_of_ble_eq_true rfl) rfl rfl (Nat.le_of_ble_eq_true rfl) rfl rfl ?_
    refine pm_R_lo pm_M265 (pc' := 1) rfl rfl rfl ?_
    refine pm_R_op pm_M265 (pc' := 2) (st' := [.int 0, .ref 41]) rfl rfl rfl ?_
    refine pm_R_put pm_M265 (pc' := 5) (fs' := [.int 0, .ref 42, .ref 43, .ref 44, .ref 45, .ref 46, .ref 47, .ref 48, .ref 49, .ref 50, .int 0, .int 0, .int 0, .int 0, .int 0, .long 0, .int 0, .int 0, .int 0, .ref 51, .ref 52, .int 0, .int 0, .int 0, .int 0, .ref 53, .int 0, .int 0, .ref 54, .ref 55, .ref 56, .int 0, .ref 57, .ref 58, .ref 59, .ref 60, .ref 61, .ref 62, .ref 63, .ref 64, .ref 65, .ref 66, .int 0, .int 0, .int 0, .ref 67, .ref 68, .int 0, .ref 69, .int 0, .int 0, .ref 70, .ref 71]) rfl rfl rfl (hh 41 (Nat.le_of_ble_eq_true rfl)) (Nat.le_of_ble_eq_true rfl) (Nat.le_of_ble_eq_true rfl) (Nat.le_of_ble_eq_true rfl) rfl (Or.inl rfl) rfl rfl ?_
    refine pm_R_lo pm_M265 (pc' := 6) rfl rfl rfl ?_
    refine pm_R_lo pm_M265 (pc' := 7) rfl rfl rfl ?_
    refine pm_R_lo pm_M265 (pc' := 8) rfl rfl rfl ?_
    refine pm_R_lo pm_M265 (pc' := 9) rfl rfl rfl ?_
    refine pm_R_cv pm_M265 (pc' := 12) (a := 41) (ra := [.int x3, .int x2, .int x1]) (rest := []) (ls' := [.ref 41, .int x1, .int x2, .int x3, pm_no, pm_no, pm_no, pm_no, pm_no]) rfl rfl (Or.inl rfl) pm_M266 rfl rfl (Nat.le_of_ble_eq_true rfl) (Nat.le_of_ble_eq_true rfl) rfl rfl (Nat.le_of_ble_eq_true rfl) rfl rfl ?_
    refine pm_R_lo pm_M266 (pc' := 1) rfl rfl rfl ?_
    refine pm_R_lo pm_M266 (pc' := 2) rfl rfl rfl ?_
    refine pm_R_cv pm_M266 (pc' := 5) (a := 41) (ra := [.int x1]) (rest := []) (ls' := [.ref 41, .int x1, pm_no, pm_no, pm_no, pm_no]) rfl rfl (Or.inl rfl) pm_M254 rfl rfl (Nat.le_of_ble_eq_true rfl) (Nat.le_of_ble_eq_true rfl) rfl rfl (Nat.le_of_ble_eq_true rfl) rfl rfl ?_
    refine pm_R_lo pm_M254 (pc' := 1) rfl rfl rfl ?_
    refine pm_R_op pm_M254 (pc' := 2) (st' := [.int 2, .ref 41]) rfl rfl rfl ?_
    refine pm_R_lo pm_M254 (pc' := 3) rfl rfl rfl ?_
    refine pm_R_cv pm_M254 (pc' := 6) (a := 41) (ra := [.int x1, .int 2]) (rest := []) (ls' := [.ref 41, .int 2, .int x1]) rfl rfl (Or.inl rfl) pm_M177 rfl rfl (Nat.le_of_ble_eq_true rfl) (Nat.le_of_ble_eq_true rfl) rfl rfl (Nat.le_of_ble_eq_true rfl) rfl rfl ?_
    refine pm_R_lo pm_M177 (pc' := 1) rfl rfl rfl ?_
    refine pm_R_op pm_M177 (pc' := 2) (st' := [.int 0, .int x1]) rfl rfl rfl ?_
    refine pm_R_lo pm_M177 (pc' := 3) rfl rfl rfl ?_
    refine pm_R_get pm_M177 (pc' := 6) (v := .ref 46) rfl rfl rfl (Nat.le_of_ble_eq_true rfl) (Nat.le_of_ble_eq_true rfl) rfl rfl ?_
    refine pm_R_lo pm_M177 (pc' := 7) rfl rfl rfl ?_
    refine pm_R_iald pm_M177 (pc' := 8) (v := 0) rfl (hh 46 (Nat.le_of_ble_eq_true rfl)) (Nat.le_of_ble_eq_true rfl) rfl rfl rfl ?_
    refine pm_R_op pm_M177 (pc' := 9) (st' := [.int 1, .int 0, .int 0, .int x1]) rfl rfl rfl ?_
    refine pm_R_op pm_M177 (pc' := 10) (st' := [.int (-1), .int 0, .int x1]) rfl rfl rfl ?_
    refine pm_R_cs pm_M177 (pc' := 13) (ra := [.int (-1), .int 0, .int x1]) (rest := []) (ls' := [.int x1, .int 0, .int (-1)]) rfl rfl (Or.inl rfl) pm_M174 rfl rfl (Nat.le_of_ble_eq_true rfl) rfl rfl ?_
    refine pm_R_lo pm_M174 (pc' := 1) rfl rfl rfl ?_
    refine pm_R_lo pm_M174 (pc' := 2) rfl rfl rfl ?_
    refine pm_R_icmp pm_M174 (t := 14) (pc' := 5) rfl rfl rfl (fun c_4 => by exact absurd c_4 c_1) (fun c_4 => ?_)
    refine pm_R_lo pm_M174 (pc' := 6) rfl rfl rfl ?_
    refine pm_R_lo pm_M174 (pc' := 7) rfl rfl rfl ?_
    refine pm_R_icmp pm_M174 (t := 14) (pc' := 10) rfl rfl rfl (fun c_5 => ?_) (fun c_5 => by have z0 : ((-1) : Int32).toInt = -1 := (by decide); have z1 : ((0) : Int32).toInt = 0 := (by decide); have q0 := (Int32.le_iff_toInt_le.mp (Int32.not_lt.mp c_1)); have q1 := (Int32.le_iff_toInt_le.mp (Int32.not_lt.mp c_5)); exfalso; omega)
    refine pm_R_op pm_M174 (pc' := 15) (st' := [.int 0]) rfl rfl rfl ?_
    refine pm_R_ret pm_M174 (r := some (.int 0)) rfl rfl ?_
    show pm_R _ 177 13 [.ref 41, .int 2, .int x1] [.int 0] _ _
    refine pm_R_ret pm_M177 (r := some (.int 0)) rfl rfl ?_
    show pm_R _ 254 6 [.ref 41, .int x1, pm_no, pm_no, pm_no, pm_no] [.int 0] _ _
    refine pm_R_br pm_M254 (pc' := 9) (st' := []) rfl rfl ?_
    refine pm_R_op pm_M254 (pc' := 10) (st' := [.int 0]) rfl rfl rfl ?_
    refine pm_R_ret pm_M254 (r := some (.int 0)) rfl rfl ?_
    show pm_R _ 266 5 [.ref 41, .int x1, .int x2, .int x3, pm_no, pm_no, pm_no, pm_no, pm_no] [.int 0] _ _
    refine pm_R_br pm_M266 (pc' := 29) (st' := []) rfl rfl ?_
    refine pm_R_op pm_M266 (pc' := 30) (st' := [.int (-1)]) rfl rfl rfl ?_
    refine pm_R_ret pm_M266 (r := some (.int (-1))) rfl rfl ?_
    show pm_R _ 265 12 [.ref 41, .int x1, .int x2, .int x3] [.int (-1)] _ _
    refine pm_R_ret pm_M265 (r := some (.int (-1))) rfl rfl ?_
    show pm_R _ 0 1409 [.ref 0, .ref 16, .ref 41, .int 0] [.int (-1), .int (-1)] _ _
    refine pm_R_br pm_M0 (pc' := 2121) (st' := []) (pm_q0_17 (Nat.le_of_ble_eq_true rfl)) rfl ?_
    exact p1_tail (hh 0 (Nat.le_of_ble_eq_true rfl)) (Nat.le_of_ble_eq_true rfl) (Nat.le_of_ble_eq_true rfl) (Nat.le_of_ble_eq_true rfl)
set_option maxRecDepth 100000 in
set_option maxHeartbeats 40000000 in
theorem p1_c27 (xs : Nat → Int32) (f : Nat → pm_E) (hh : ∀ i, i < 72 → f i = pm_fF 7 xs i) (x0 x1 x2 x3 x4 x5 x6 : Int32) (hx0 : xs 0 = x0) (hx1 : xs 1 = x1) (hx2 : xs 2 = x2) (hx3 : xs 3 = x3) (hx4 : xs 4 = x4) (hx5 : xs 5 = x5) (hx6 : xs 6 = x6) : pm_R 100 0 1414 [.ref 0, .ref 16, .ref 41, .int 0] [] (72, 52657, f) p1_Q := by
  refine pm_R_lo pm_M0 (pc' := 1415) (pm_q0_17 (Nat.le_of_ble_eq_true rfl)) rfl rfl ?_
  refine pm_R_lo pm_M0 (pc' := 1416) (pm_q0_17 (Nat.le_of_ble_eq_true rfl)) rfl rfl ?_
  refine pm_R_lo pm_M0 (pc' := 1417) (pm_q0_17 (Nat.le_of_ble_eq_true rfl)) rfl rfl ?_
  refine pm_R_op pm_M0 (pc' := 1418) (st' := [.int 1, .int 0, .ref 0, .ref 16]) (pm_q0_17 (Nat.le_of_ble_eq_true rfl)) rfl rfl ?_
  refine pm_R_op pm_M0 (pc' := 1419) (st' := [.int 1, .ref 0, .ref 16]) (pm_q0_17 (Nat.le_of_ble_eq_true rfl)) rfl rfl ?_
  refine pm_R_iald pm_M0 (pc' := 1420) (v := x1) (pm_q0_17 (Nat.le_of_ble_eq_true rfl)) (hh 0 (Nat.le_of_ble_eq_true rfl)) (Nat.le_of_ble_eq_true rfl) rfl hx1 rfl ?_
  refine pm_R_lo pm_M0 (pc' := 1421) (pm_q0_17 (Nat.le_of_ble_eq_true rfl)) rfl rfl ?_
  refine pm_R_lo pm_M0 (pc' := 1422) (pm_q0_17 (Nat.le_of_ble_eq_true rfl)) rfl rfl ?_
  refine pm_R_op pm_M0 (pc' := 1423) (st' := [.int 2, .int 0, .ref 0, .int x1, .ref 16]) (pm_q0_17 (Nat.le_of_ble_eq_true rfl)) rfl rfl ?_
  refine pm_R_op pm_M0 (pc' := 1424) (st' := [.int 2, .ref 0, .int x1, .ref 16]) (pm_q0_17 (Nat.le_of_ble_eq_true rfl)) rfl rfl ?_
  refine pm_R_iald pm_M0 (pc' := 1425) (v := x2) (pm_q0_17 (Nat.le_of_ble_eq_true rfl)) (hh 0 (Nat.le_of_ble_eq_true rfl)) (Nat.le_of_ble_eq_true rfl) rfl hx2 rfl ?_
  refine pm_R_lo pm_M0 (pc' := 1426) (pm_q0_17 (Nat.le_of_ble_eq_true rfl)) rfl rfl ?_
  refine pm_R_lo pm_M0 (pc' := 1427) (pm_q0_17 (Nat.le_of_ble_eq_true rfl)) rfl rfl ?_
  refine pm_R_op pm_M0 (pc' := 1428) (st' := [.int 3, .int 0, .ref 0, .int x2, .int x1, .ref 16]) (pm_q0_17 (Nat.le_of_ble_eq_true rfl)) rfl rfl ?_
  refine pm_R_op pm_M0 (pc' := 1429) (st' := [.int 3, .ref 0, .int x2, .int x1, .ref 16]) (pm_q0_17 (Nat.le_of_ble_eq_true rfl)) rfl rfl ?_
  refine pm_R_iald pm_M0 (pc' := 1430) (v := x3) (pm_q0_17 (Nat.le_of_ble_eq_true rfl)) (hh 0 (Nat.le_of_ble_eq_true rfl)) (Nat.le_of_ble_eq_true rfl) rfl hx3 rfl ?_
  refine pm_R_lo pm_M0 (pc' := 1431) (pm_q0_17 (Nat.le_of_ble_eq_true rfl)) rfl rfl ?_
  refine pm_R_lo pm_M0 (pc' := 1432) (pm_q0_17 (Nat.le_of_ble_eq_true rfl)) rfl rfl ?_
  refine pm_R_op pm_M0 (pc' := 1433) (st' := [.int 4, .int 0, .ref 0, .int x3, .int x2, .int x1, .ref 16]) (pm_q0_17 (Nat.le_of_ble_eq_true rfl)) rfl rfl ?_
  refine pm_R_op pm_M0 (pc' := 1434) (st' := [.int 4, .ref 0, .int x3, .int x2, .int x1, .ref 16]) (pm_q0_17 (Nat.le_of_ble_eq_true rfl)) rfl rfl ?_
  refine pm_R_iald pm_M0 (pc' := 1435) (v := x4) (pm_q0_17 (Nat.le_of_ble_eq_true rfl)) (hh 0 (Nat.le_of_ble_eq_true rfl)) (Nat.le_of_ble_eq_true rfl) rfl hx4 rfl ?_
  refine pm_R_lo pm_M0 (pc' := 1436) (pm_q0_17 (Nat.le_of_ble_eq_true rfl)) rfl rfl ?_
  refine pm_R_lo pm_M0 (pc' := 1437) (pm_q0_17 (Nat.le_of_ble_eq_true rfl)) rfl rfl ?_
  refine pm_R_op pm_M0 (pc' := 1438) (st' := [.int 5, .int 0, .ref 0, .int x4, .int x3, .int x2, .int x1, .ref 16]) (pm_q0_17 (Nat.le_of_ble_eq_true rfl)) rfl rfl ?_
  refine pm_R_op pm_M0 (pc' := 1439) (st' := [.int 5, .ref 0, .int x4, .int x3, .int x2, .int x1, .ref 16]) (pm_q0_17 (Nat.le_of_ble_eq_true rfl)) rfl rfl ?_
  refine pm_R_iald pm_M0 (pc' := 1440) (v := x5) (pm_q0_17 (Nat.le_of_ble_eq_true rfl)) (hh 0 (Nat.le_of_ble_eq_true rfl)) (Nat.le_of_ble_eq_true rfl) rfl hx5 rfl ?_
  refine pm_R_cv pm_M0 (pc' := 1443) (a := 16) (ra := [.int x5, .int x4, .int x3, .int x2, .int x1]) (rest := []) (ls' := [.ref 16, .int x1, .int x2, .int x3, .int x4, .int x5, pm_no, pm_no, pm_no, pm_no, pm_no]) (pm_q0_17 (Nat.le_of_ble_eq_true rfl)) rfl (Or.inl rfl) pm_M155 (hh 16 (Nat.le_of_ble_eq_true rfl)) rfl (Nat.le_of_ble_eq_true rfl) (Nat.le_of_ble_eq_true rfl) rfl rfl (Nat.le_of_ble_eq_true rfl) rfl rfl ?_
  refine pm_R_lo pm_M155 (pc' := 1) rfl rfl rfl ?_
  refine pm_R_lo pm_M155 (pc' := 2) rfl rfl rfl ?_
  refine pm_R_cv pm_M155 (pc' := 5) (a := 16) (ra := [.int x1]) (rest := []) (ls' := [.ref 16, .int x1]) rfl rfl (Or.inl rfl) pm_M62 (hh 16 (Nat.le_of_ble_eq_true rfl)) rfl (Nat.le_of_ble_eq_true rfl) (Nat.le_of_ble_eq_true rfl) rfl rfl (Nat.le_of_ble_eq_true rfl) rfl rfl ?_
  refine pm_R_lo pm_M62 (pc' := 1) rfl rfl rfl ?_
  refine pm_R_ifc pm_M62 (t := 17) (pc' := 4) rfl rfl rfl (fun c_1 => ?_) (fun c_1 => ?_)
  · refine pm_R_op pm_M62 (pc' := 18) (st' := [.null]) rfl rfl rfl ?_
    refine pm_R_br pm_M62 (pc' := 30) rfl rfl ?_
    refine pm_R_ret pm_M62 (r := some (.null)) rfl rfl ?_
    show pm_R _ 155 5 [.ref 16, .int x1, .int x2, .int x3, .int x4, .int x5, pm_no, pm_no, pm_no, pm_no, pm_no] [.null] _ _
    refine pm_R_lo pm_M155 (pc' := 7) (ls' := [.ref 16, .int x1, .int x2, .int x3, .int x4, .int x5, .null, pm_no, pm_no, pm_no, pm_no]) (st' := []) rfl rfl rfl ?_
    refine pm_R_lo pm_M155 (pc' := 8) rfl rfl rfl ?_
    refine pm_R_lo pm_M155 (pc' := 9) rfl rfl rfl ?_
    refine pm_R_cv pm_M155 (pc' := 12) (a := 16) (ra := [.int x2]) (rest := []) (ls' := [.ref 16, .int x2]) rfl rfl (Or.inl rfl) pm_M66 (hh 16 (Nat.le_of_ble_eq_true rfl)) rfl (Nat.le_of_ble_eq_true rfl) (Nat.le_of_ble_eq_true rfl) rfl rfl (Nat.le_of_ble_eq_true rfl) rfl rfl ?_
    refine pm_R_lo pm_M66 (pc' := 1) rfl rfl rfl ?_
    refine pm_R_ifc pm_M66 (t := 17) (pc' := 4) rfl rfl rfl (fun c_2 => ?_) (fun c_2 => ?_)
    · refine pm_R_op pm_M66 (pc' := 18) (st' := [.null]) rfl rfl rfl ?_
      refine pm_R_br pm_M66 (pc' := 30) rfl rfl ?_
      refine pm_R_ret pm_M66 (r := some (.null)) rfl rfl ?_
      show pm_R _ 155 12 [.ref 16, .int x1, .int x2, .int x3, .int x4, .int x5, .null, pm_no, pm_no, pm_no, pm_no] [.null] _ _
      refine pm_R_lo pm_M155 (pc' := 14) (ls' := [.ref 16, .int x1, .int x2, .int x3, .int x4, .int x5, .null, .null, pm_no, pm_no, pm_no]) (st' := []) rfl rfl rfl ?_
      refine pm_R_lo pm_M155 (pc' := 15) rfl rfl rfl ?_
      refine pm_R_lo pm_M155 (pc' := 16) rfl rfl rfl ?_
      refine pm_R_lo pm_M155 (pc' := 18) rfl rfl rfl ?_
      refine pm_R_lo pm_M155 (pc' := 20) rfl rfl rfl ?_
      refine pm_R_cv pm_M155 (pc' := 23) (a := 16) (ra := [.int x5, .int x4, .int x3]) (rest := []) (ls' := [.ref 16, .int x3, .int x4, .int x5, pm_no]) rfl rfl (Or.inl rfl) pm_M152 (hh 16 (Nat.le_of_ble_eq_true rfl)) rfl (Nat.le_of_ble_eq_true rfl) (Nat.le_of_ble_eq_true rfl) rfl rfl (Nat.le_of_ble_eq_true rfl) rfl rfl ?_
      refine pm_R_lo pm_M152 (pc' := 1) rfl rfl rfl ?_
      refine pm_R_lo pm_M152 (pc' := 2) rfl rfl rfl ?_
      refine pm_R_cv pm_M152 (pc' := 5) (a := 16) (ra := [.int x3]) (rest := []) (ls' := [.ref 16, .int x3]) rfl rfl (Or.inl rfl) pm_M139 (hh 16 (Nat.le_of_ble_eq_true rfl)) rfl (Nat.le_of_ble_eq_true rfl) (Nat.le_of_ble_eq_true rfl) rfl rfl (Nat.le_of_ble_eq_true rfl) rfl rfl ?_
      refine pm_R_lo pm_M139 (pc' := 1) rfl rfl rfl ?_
      refine pm_R_ifc pm_M139 (t := 17) (pc' := 4) rfl rfl rfl (fun c_3 => ?_) (fun c_3 => ?_)
      · refine pm_R_op pm_M139 (pc' := 18) (st' := [.null]) rfl rfl rfl ?_
        refine pm_R_br pm_M139 (pc' := 30) rfl rfl ?_
        refine pm_R_ret pm_M139 (r := some (.null)) rfl rfl ?_
        show pm_R _ 152 5 [.ref 16, .int x3, .int x4, .int x5, pm_no] [.null] _ _
        refine pm_R_lo pm_M152 (pc' := 7) (ls' := [.ref 16, .int x3, .int x4, .int x5, .null]) (st' := []) rfl rfl rfl ?_
        refine pm_R_lo pm_M152 (pc' := 9) rfl rfl rfl ?_
        refine pm_R_br pm_M152 (pc' := 35) rfl rfl ?_
        refine pm_R_op pm_M152 (pc' := 36) (st' := [.int (-1)]) rfl rfl rfl ?_
        refine pm_R_ret pm_M152 (r := some (.int (-1))) rfl rfl ?_
        show pm_R _ 155 23 [.ref 16, .int x1, .int x2, .int x3, .int x4, .int x5, .null, .null, pm_no, pm_no, pm_no] [.int (-1)] _ _
        refine pm_R_lo pm_M155 (pc' := 25) (ls' := [.ref 16, .int x1, .int x2, .int x3, .int x4, .int x5, .null, .null, .int (-1), pm_no, pm_no]) (st' := []) rfl rfl rfl ?_
        refine pm_R_lo pm_M155 (pc' := 27) rfl rfl rfl ?_
        refine pm_R_br pm_M155 (pc' := 41) rfl rfl ?_
        refine pm_R_op pm_M155 (pc' := 42) (st' := [.int 0]) rfl rfl rfl ?_
        refine pm_R_ret pm_M155 (r := some (.int 0)) rfl rfl ?_
        show pm_R _ 0 1443 [.ref 0, .ref 16, .ref 41, .int 0] [.int 0] _ _
        refine pm_R_lo pm_M0 (pc' := 1444) (pm_q0_17 (Nat.le_of_ble_eq_true rfl)) rfl rfl ?_
        refine pm_R_lo pm_M0 (pc' := 1445) (pm_q0_17 (Nat.le_of_ble_eq_true rfl)) rfl rfl ?_
        refine pm_R_lo pm_M0 (pc' := 1446) (pm_q0_17 (Nat.le_of_ble_eq_true rfl)) rfl rfl ?_
        refine pm_R_op pm_M0 (pc' := 1447) (st' := [.int 1, .int 0, .ref 0, .ref 41, .int 0]) (pm_q0_17 (Nat.le_of_ble_eq_true rfl)) rfl rfl ?_
        refine pm_R_op pm_M0 (pc' := 1448) (st' := [.int 1, .ref 0, .ref 41, .int 0]) (pm_q0_17 (Nat.le_of_ble_eq_true rfl)) rfl rfl ?_
        refine pm_R_iald pm_M0 (pc' := 1449) (v := x1) (pm_q0_18 (Nat.le_of_ble_eq_true rfl)) (hh 0 (Nat.le_of_ble_eq_true rfl)) (Nat.le_of_ble_eq_true rfl) rfl hx1 rfl ?_
        refine pm_R_lo pm_M0 (pc' := 1450) (pm_q0_18 (Nat.le_of_ble_eq_true rfl)) rfl rfl ?_
        refine pm_R_lo pm_M0 (pc' := 1451) (pm_q0_18 (Nat.le_of_ble_eq_true rfl)) rfl rfl ?_
        refine pm_R_op pm_M0 (pc' := 1452) (st' := [.int 2, .int 0, .ref 0, .int x1, .ref 41, .int 0]) (pm_q0_18 (Nat.le_of_ble_eq_true rfl)) rfl rfl ?_
        refine pm_R_op pm_M0 (pc' := 1453) (st' := [.int 2, .ref 0, .int x1, .ref 41, .int 0]) (pm_q0_18 (Nat.le_of_ble_eq_true rfl)) rfl rfl ?_
        refine pm_R_iald pm_M0 (pc' := 1454) (v := x2) (pm_q0_18 (Nat.le_of_ble_eq_true rfl)) (hh 0 (Nat.le_of_ble_eq_true rfl)) (Nat.le_of_ble_eq_true rfl) rfl hx2 rfl ?_
        refine pm_R_lo pm_M0 (pc' := 1455) (pm_q0_18 (Nat.le_of_ble_eq_true rfl)) rfl rfl ?_
        refine pm_R_lo pm_M0 (pc' := 1456) (pm_q0_18 (Nat.le_of_ble_eq_true rfl)) rfl rfl ?_
        refine pm_R_op pm_M0 (pc' := 1457) (st' := [.int 3, .int 0, .ref 0, .int x2, .int x1, .ref 41, .int 0]) (pm_q0_18 (Nat.le_of_ble_eq_true rfl)) rfl rfl ?_
        refine pm_R_op pm_M0 (pc' := 1458) (st' := [.int 3, .ref 0, .int x2, .int x1, .ref 41, .int 0]) (pm_q0_18 (Nat.le_of_ble_eq_true rfl)) rfl rfl ?_
        refine pm_R_iald pm_M0 (pc' := 1459) (v := x3) (pm_q0_18 (Nat.le_of_ble_eq_true rfl)) (hh 0 (Nat.le_of_ble_eq_true rfl)) (Nat.le_of_ble_eq_true rfl) rfl hx3 rfl ?_
        refine pm_R_lo pm_M0 (pc' := 1460) (pm_q0_18 (Nat.le_of_ble_eq_true rfl)) rfl rfl ?_
        refine pm_R_lo pm_M0 (pc' := 1461) (pm_q0_18 (Nat.le_of_ble_eq_true rfl)) rfl rfl ?_
        refine pm_R_op pm_M0 (pc' := 1462) (st' := [.int 4, .int 0, .ref 0, .int x3, .int x2, .int x1, .ref 41, .int 0]) (pm_q0_18 (Nat.le_of_ble_eq_true rfl)) rfl rfl ?_
        refine pm_R_op pm_M0 (pc' := 1463) (st' := [.int 4, .ref 0, .int x3, .int x2, .int x1, .ref 41, .int 0]) (pm_q0_18 (Nat.le_of_ble_eq_true rfl)) rfl rfl ?_
        refine pm_R_iald pm_M0 (pc' := 1464) (v := x4) (pm_q0_18 (Nat.le_of_ble_eq_true rfl)) (hh 0 (Nat.le_of_ble_eq_true rfl)) (Nat.le_of_ble_eq_true rfl) rfl hx4 rfl ?_
        refine pm_R_lo pm_M0 (pc' := 1465) (pm_q0_18 (Nat.le_of_ble_eq_true rfl)) rfl rfl ?_
        refine pm_R_lo pm_M0 (pc' := 1466) (pm_q0_18 (Nat.le_of_ble_eq_true rfl)) rfl rfl ?_
        refine pm_R_op pm_M0 (pc' := 1467) (st' := [.int 5, .int 0, .ref 0, .int x4, .int x3, .int x2, .int x1, .ref 41, .int 0]) (pm_q0_18 (Nat.le_of_ble_eq_true rfl)) rfl rfl ?_
        refine pm_R_op pm_M0 (pc' := 1468) (st' := [.int 5, .ref 0, .int x4, .int x3, .int x2, .int x1, .ref 41, .int 0]) (pm_q0_18 (Nat.le_of_ble_eq_true rfl)) rfl rfl ?_
        refine pm_R_iald pm_M0 (pc' := 1469) (v := x5) (pm_q0_18 (Nat.le_of_ble_eq_true rfl)) (hh 0 (Nat.le_of_ble_eq_true rfl)) (Nat.le_of_ble_eq_true rfl) rfl hx5 rfl ?_
        refine pm_R_cv pm_M0 (pc' := 1472) (a := 41) (ra := [.int x5, .int x4, .int x3, .int x2, .int x1]) (rest := [.int 0]) (ls' := [.ref 41, .int x1, .int x2, .int x3, .int x4, .int x5, pm_no]) (pm_q0_18 (Nat.le_of_ble_eq_true rfl)) rfl (Or.inl rfl) pm_M268 (hh 41 (Nat.le_of_ble_eq_true rfl)) rfl (Nat.le_of_ble_eq_true rfl) (Nat.le_of_ble_eq_true rfl) rfl rfl (Nat.le_of_ble_eq_true rfl) rfl rfl ?_
        refine pm_R_lo pm_M268 (pc' := 1) rfl rfl rfl ?_
        refine pm_R_op pm_M268 (pc' := 2) (st' := [.int 0, .ref 41]) rfl rfl rfl ?_
        refine pm_R_put pm_M268 (pc' := 5) (fs' := [.int 0, .ref 42, .ref 43, .ref 44, .ref 45, .ref 46, .ref 47, .ref 48, .ref 49, .ref 50, .int 0, .int 0, .int 0, .int 0, .int 0, .long 0, .int 0, .int 0, .int 0, .ref 51, .ref 52, .int 0, .int 0, .int 0, .int 0, .ref 53, .int 0, .int 0, .ref 54, .ref 55, .ref 56, .int 0, .ref 57, .ref 58, .ref 59, .ref 60, .ref 61, .ref 62, .ref 63, .ref 64, .ref 65, .ref 66, .int 0, .int 0, .int 0, .ref 67, .ref 68, .int 0, .ref 69, .int 0, .int 0, .ref 70, .ref 71]) rfl rfl rfl (hh 41 (Nat.le_of_ble_eq_true rfl)) (Nat.le_of_ble_eq_true rfl) (Nat.le_of_ble_eq_true rfl) (Nat.le_of_ble_eq_true rfl) rfl (Or.inl rfl) rfl rfl ?_
        refine pm_R_lo pm_M268 (pc' := 6) rfl rfl rfl ?_
        refine pm_R_lo pm_M268 (pc' := 7) rfl rfl rfl ?_
        refine pm_R_lo pm_M268 (pc' := 9) rfl rfl rfl ?_
        refine pm_R_lo pm_M268 (pc' := 11) rfl rfl rfl ?_
        refine pm_R_cv pm_M268 (pc' := 14) (a := 41) (ra := [.int x5, .int x4, .int x3]) (rest := []) (ls' := [.ref 41, .int x3, .int x4, .int x5, pm_no, pm_no, pm_no, pm_no, pm_no]) rfl rfl (Or.inl rfl) pm_M266 rfl rfl (Nat.le_of_ble_eq_true rfl) (Nat.le_of_ble_eq_true rfl) rfl rfl (Nat.le_of_ble_eq_true rfl) rfl rfl ?_
        refine pm_R_lo pm_M266 (pc' := 1) rfl rfl rfl ?_
        refine pm_R_lo pm_M266 (pc' := 2) rfl rfl rfl ?_
        refine pm_R_cv pm_M266 (pc' := 5) (a := 41) (ra := [.int x3]) (rest := []) (ls' := [.ref 41, .int x3, pm_no, pm_no, pm_no, pm_no]) rfl rfl (Or.inl rfl) pm_M254 rfl rfl (Nat.le_of_ble_eq_true rfl) (Nat.le_of_ble_eq_true rfl) rfl rfl (Nat.le_of_ble_eq_true rfl) rfl rfl ?_
        refine pm_R_lo pm_M254 (pc' := 1) rfl rfl rfl ?_
        refine pm_R_op pm_M254 (pc' := 2) (st' := [.int 2, .ref 41]) rfl rfl rfl ?_
        refine pm_R_lo pm_M254 (pc' := 3) rfl rfl rfl ?_
        refine pm_R_cv pm_M254 (pc' := 6) (a := 41) (ra := [.int x3, .int 2]) (rest := []) (ls' := [.ref 41, .int 2, .int x3]) rfl rfl (Or.inl rfl) pm_M177 rfl rfl (Nat.le_of_ble_eq_true rfl) (Nat.le_of_ble_eq_true rfl) rfl rfl (Nat.le_of_ble_eq_true rfl) rfl rfl ?_
        refine pm_R_lo pm_M177 (pc' := 1) rfl rfl rfl ?_
        refine pm_R_op pm_M177 (pc' := 2) (st' := [.int 0, .int x3]) rfl rfl rfl ?_
        refine pm_R_lo pm_M177 (pc' := 3) rfl rfl rfl ?_
        refine pm_R_get pm_M177 (pc' := 6) (v := .ref 46) rfl rfl rfl (Nat.le_of_ble_eq_true rfl) (Nat.le_of_ble_eq_true rfl) rfl rfl ?_
        refine pm_R_lo pm_M177 (pc' := 7) rfl rfl rfl ?_
        refine pm_R_iald pm_M177 (pc' := 8) (v := 0) rfl (hh 46 (Nat.le_of_ble_eq_true rfl)) (Nat.le_of_ble_eq_true rfl) rfl rfl rfl ?_
        refine pm_R_op pm_M177 (pc' := 9) (st' := [.int 1, .int 0, .int 0, .int x3]) rfl rfl rfl ?_
        refine pm_R_op pm_M177 (pc' := 10) (st' := [.int (-1), .int 0, .int x3]) rfl rfl rfl ?_
        refine pm_R_cs pm_M177 (pc' := 13) (ra := [.int (-1), .int 0, .int x3]) (rest := []) (ls' := [.int x3, .int 0, .int (-1)]) rfl rfl (Or.inl rfl) pm_M174 rfl rfl (Nat.le_of_ble_eq_true rfl) rfl rfl ?_
        refine pm_R_lo pm_M174 (pc' := 1) rfl rfl rfl ?_
        refine pm_R_lo pm_M174 (pc' := 2) rfl rfl rfl ?_
        refine pm_R_icmp pm_M174 (t := 14) (pc' := 5) rfl rfl rfl (fun c_4 => ?_) (fun c_4 => by exact absurd c_3 c_4)
        refine pm_R_op pm_M174 (pc' := 15) (st' := [.int 0]) rfl rfl rfl ?_
        refine pm_R_ret pm_M174 (r := some (.int 0)) rfl rfl ?_
        show pm_R _ 177 13 [.ref 41, .int 2, .int x3] [.int 0] _ _
        refine pm_R_ret pm_M177 (r := some (.int 0)) rfl rfl ?_
        show pm_R _ 254 6 [.ref 41, .int x3, pm_no, pm_no, pm_no, pm_no] [.int 0] _ _
        refine pm_R_br pm_M254 (pc' := 9) (st' := []) rfl rfl ?_
        refine pm_R_op pm_M254 (pc' := 10) (st' := [.int 0]) rfl rfl rfl ?_
        refine pm_R_ret pm_M254 (r := some (.int 0)) rfl rfl ?_
        show pm_R _ 266 5 [.ref 41, .int x3, .int x4, .int x5, pm_no, pm_no, pm_no, pm_no, pm_no] [.int 0] _ _
        refine pm_R_br pm_M266 (pc' := 29) (st' := []) rfl rfl ?_
        refine pm_R_op pm_M266 (pc' := 30) (st' := [.int (-1)]) rfl rfl rfl ?_
        refine pm_R_ret pm_M266 (r := some (.int (-1))) rfl rfl ?_
        show pm_R _ 268 14 [.ref 41, .int x1, .int x2, .int x3, .int x4, .int x5, pm_no] [.int (-1)] _ _
        refine pm_R_lo pm_M268 (pc' := 16) (ls' := [.ref 41, .int x1, .int x2, .int x3, .int x4, .int x5, .int (-1)]) (st' := []) rfl rfl rfl ?_
        refine pm_R_lo pm_M268 (pc' := 18) rfl rfl rfl ?_
        refine pm_R_op pm_M268 (pc' := 19) (st' := [.int (-1), .int (-1)]) rfl rfl rfl ?_
        refine pm_R_br pm_M268 (pc' := 46) (st' := []) rfl rfl ?_
        refine pm_R_op pm_M268 (pc' := 47) (st' := [.int 0]) rfl rfl rfl ?_
        refine pm_R_ret pm_M268 (r := some (.int 0)) rfl rfl ?_
        show pm_R _ 0 1472 [.ref 0, .ref 16, .ref 41, .int 0] [.int 0, .int 0] _ _
        refine pm_R_br pm_M0 (pc' := 2121) (st' := []) (pm_q0_18 (Nat.le_of_ble_eq_true rfl)) rfl ?_
        exact p1_tail (hh 0 (Nat.le_of_ble_eq_true rfl)) (Nat.le_of_ble_eq_true rfl) (Nat.le_of_ble_eq_true rfl) (Nat.le_of_ble_eq_true rfl)
      · refine pm_R_lo pm_M139 (pc' := 5) rfl rfl rfl ?_
        refine pm_R_lo pm_M139 (pc' := 6) rfl rfl rfl ?_
        refine pm_R_get pm_M139 (pc' := 9) (v := .ref 17) rfl rfl (hh 16 (Nat.le_of_ble_eq_true rfl)) (Nat.le_of_ble_eq_true rfl) (Nat.le_of_ble_eq_true rfl) rfl rfl ?_
        refine pm_R_get pm_M139 (pc' := 12) (v := .ref 23) rfl rfl (hh 17 (Nat.le_of_ble_eq_true rfl)) (Nat.le_of_ble_eq_true rfl) (Nat.le_of_ble_eq_true rfl) rfl rfl ?_
        refine pm_R_op pm_M139 (pc' := 13) (st' := [.int 2, .ref 23, .int x3]) rfl rfl rfl ?_
        refine pm_R_iald pm_M139 (pc' := 14) (v := 0) rfl (hh 23 (Nat.le_of_ble_eq_true rfl)) (Nat.le_of_ble_eq_true rfl) rfl rfl rfl ?_
        refine pm_R_icmp pm_M139 (t := 21) (pc' := 17) rfl rfl rfl (fun c_5 => by exact absurd c_5 c_3) (fun c_5 => ?_)
        refine pm_R_op pm_M139 (pc' := 18) (st' := [.null]) rfl rfl rfl ?_
        refine pm_R_br pm_M139 (pc' := 30) rfl rfl ?_
        refine pm_R_ret pm_M139 (r := some (.null)) rfl rfl ?_
        show pm_R _ 152 5 [.ref 16, .int x3, .int x4, .int x5, pm_no] [.null] _ _
        refine pm_R_lo pm_M152 (pc' := 7) (ls' := [.ref 16, .int x3, .int x4, .int x5, .null]) (st' := []) rfl rfl rfl ?_
        refine pm_R_lo pm_M152 (pc' := 9) rfl rfl rfl ?_
        refine pm_R_br pm_M152 (pc' := 35) rfl rfl ?_
        refine pm_R_op pm_M152 (pc' := 36) (st' := [.int (-1)]) rfl rfl rfl ?_
        refine pm_R_ret pm_M152 (r := some (.int (-1))) rfl rfl ?_
        show pm_R _ 155 23 [.ref 16, .int x1, .int x2, .int x3, .int x4, .int x5, .null, .null, pm_no, pm_no, pm_no] [.int (-1)] _ _
        refine pm_R_lo pm_M155 (pc' := 25) (ls' := [.ref 16, .int x1, .int x2, .int x3, .int x4, .int x5, .null, .null, .int (-1), pm_no, pm_no]) (st' := []) rfl rfl rfl ?_
        refine pm_R_lo pm_M155 (pc' := 27) rfl rfl rfl ?_
        refine pm_R_br pm_M155 (pc' := 41) rfl rfl ?_
        refine pm_R_op pm_M155 (pc' := 42) (st' := [.int 0]) rfl rfl rfl ?_
        refine pm_R_ret pm_M155 (r := some (.int 0)) rfl rfl ?_
        show pm_R _ 0 1443 [.ref 0, .ref 16, .ref 41, .int 0] [.int 0] _ _
        refine pm_R_lo pm_M0 (pc' := 1444) (pm_q0_17 (Nat.le_of_ble_eq_true rfl)) rfl rfl ?_
        refine pm_R_lo pm_M0 (pc' := 1445) (pm_q0_17 (Nat.le_of_ble_eq_true rfl)) rfl rfl ?_
        refine pm_R_lo pm_M0 (pc' := 1446) (pm_q0_17 (Nat.le_of_ble_eq_true rfl)) rfl rfl ?_
        refine pm_R_op pm_M0 (pc' := 1447) (st' := [.int 1, .int 0, .ref 0, .ref 41, .int 0]) (pm_q0_17 (Nat.le_of_ble_eq_true rfl)) rfl rfl ?_
        refine pm_R_op pm_M0 (pc' := 1448) (st' := [.int 1, .ref 0, .ref 41, .int 0]) (pm_q0_17 (Nat.le_of_ble_eq_true rfl)) rfl rfl ?_
        refine pm_R_iald pm_M0 (pc' := 1449) (v := x1) (pm_q0_18 (Nat.le_of_ble_eq_true rfl)) (hh 0 (Nat.le_of_ble_eq_true rfl)) (Nat.le_of_ble_eq_true rfl) rfl hx1 rfl ?_
        refine pm_R_lo pm_M0 (pc' := 1450) (pm_q0_18 (Nat.le_of_ble_eq_true rfl)) rfl rfl ?_
        refine pm_R_lo pm_M0 (pc' := 1451) (pm_q0_18 (Nat.le_of_ble_eq_true rfl)) rfl rfl ?_
        refine pm_R_op pm_M0 (pc' := 1452) (st' := [.int 2, .int 0, .ref 0, .int x1, .ref 41, .int 0]) (pm_q0_18 (Nat.le_of_ble_eq_true rfl)) rfl rfl ?_
        refine pm_R_op pm_M0 (pc' := 1453) (st' := [.int 2, .ref 0, .int x1, .ref 41, .int 0]) (pm_q0_18 (Nat.le_of_ble_eq_true rfl)) rfl rfl ?_
        refine pm_R_iald pm_M0 (pc' := 1454) (v := x2) (pm_q0_18 (Nat.le_of_ble_eq_true rfl)) (hh 0 (Nat.le_of_ble_eq_true rfl)) (Nat.le_of_ble_eq_true rfl) rfl hx2 rfl ?_
        refine pm_R_lo pm_M0 (pc' := 1455) (pm_q0_18 (Nat.le_of_ble_eq_true rfl)) rfl rfl ?_
        refine pm_R_lo pm_M0 (pc' := 1456) (pm_q0_18 (Nat.le_of_ble_eq_true rfl)) rfl rfl ?_
        refine pm_R_op pm_M0 (pc' := 1457) (st' := [.int 3, .int 0, .ref 0, .int x2, .int x1, .ref 41, .int 0]) (pm_q0_18 (Nat.le_of_ble_eq_true rfl)) rfl rfl ?_
        refine pm_R_op pm_M0 (pc' := 1458) (st' := [.int 3, .ref 0, .int x2, .int x1, .ref 41, .int 0]) (pm_q0_18 (Nat.le_of_ble_eq_true rfl)) rfl rfl ?_
        refine pm_R_iald pm_M0 (pc' := 1459) (v := x3) (pm_q0_18 (Nat.le_of_ble_eq_true rfl)) (hh 0 (Nat.le_of_ble_eq_true rfl)) (Nat.le_of_ble_eq_true rfl) rfl hx3 rfl ?_
        refine pm_R_lo pm_M0 (pc' := 1460) (pm_q0_18 (Nat.le_of_ble_eq_true rfl)) rfl rfl ?_
        refine pm_R_lo pm_M0 (pc' := 1461) (pm_q0_18 (Nat.le_of_ble_eq_true rfl)) rfl rfl ?_
        refine pm_R_op pm_M0 (pc' := 1462) (st' := [.int 4, .int 0, .ref 0, .int x3, .int x2, .int x1, .ref 41, .int 0]) (pm_q0_18 (Nat.le_of_ble_eq_true rfl)) rfl rfl ?_
        refine pm_R_op pm_M0 (pc' := 1463) (st' := [.int 4, .ref 0, .int x3, .int x2, .int x1, .ref 41, .int 0]) (pm_q0_18 (Nat.le_of_ble_eq_true rfl)) rfl rfl ?_
        refine pm_R_iald pm_M0 (pc' := 1464) (v := x4) (pm_q0_18 (Nat.le_of_ble_eq_true rfl)) (hh 0 (Nat.le_of_ble_eq_true rfl)) (Nat.le_of_ble_eq_true rfl) rfl hx4 rfl ?_
        refine pm_R_lo pm_M0 (pc' := 1465) (pm_q0_18 (Nat.le_of_ble_eq_true rfl)) rfl rfl ?_
        refine pm_R_lo pm_M0 (pc' := 1466) (pm_q0_18 (Nat.le_of_ble_eq_true rfl)) rfl rfl ?_
        refine pm_R_op pm_M0 (pc' := 1467) (st' := [.int 5, .int 0, .ref 0, .int x4, .int x3, .int x2, .int x1, .ref 41, .int 0]) (pm_q0_18 (Nat.le_of_ble_eq_true rfl)) rfl rfl ?_
        refine pm_R_op pm_M0 (pc' := 1468) (st' := [.int 5, .ref 0, .int x4, .int x3, .int x2, .int x1, .ref 41, .int 0]) (pm_q0_18 (Nat.le_of_ble_eq_true rfl)) rfl rfl ?_
        refine pm_R_iald pm_M0 (pc' := 1469) (v := x5) (pm_q0_18 (Nat.le_of_ble_eq_true rfl)) (hh 0 (Nat.le_of_ble_eq_true rfl)) (Nat.le_of_ble_eq_true rfl) rfl hx5 rfl ?_
        refine pm_R_cv pm_M0 (pc' := 1472) (a := 41) (ra := [.int x5, .int x4, .int x3, .int x2, .int x1]) (rest := [.int 0]) (ls' := [.ref 41, .int x1, .int x2, .int x3, .int x4, .int x5, pm_no]) (pm_q0_18 (Nat.le_of_ble_eq_true rfl)) rfl (Or.inl rfl) pm_M268 (hh 41 (Nat.le_of_ble_eq_true rfl)) rfl (Nat.le_of_ble_eq_true rfl) (Nat.le_of_ble_eq_true rfl) rfl rfl (Nat.le_of_ble_eq_true rfl) rfl rfl ?_
        refine pm_R_lo pm_M268 (pc' := 1) rfl rfl rfl ?_
        refine pm_R_op pm_M268 (pc' := 2) (st' := [.int 0, .ref 41]) rfl rfl rfl ?_
        refine pm_R_put pm_M268 (pc' := 5) (fs' := [.int 0, .ref 42, .ref 43, .ref 44, .ref 45, .ref 46, .ref 47, .ref 48, .ref 49, .ref 50, .int 0, .int 0, .int 0, .int 0, .int 0, .long 0, .int 0, .int 0, .int 0, .ref 51, .ref 52, .int 0, .int 0, .int 0, .int 0, .ref 53, .int 0, .int 0, .ref 54, .ref 55, .ref 56, .int 0, .ref 57, .ref 58, .ref 59, .ref 60, .ref 61, .ref 62, .ref 63, .ref 64, .ref 65, .ref 66, .int 0, .int 0, .int 0, .ref 67, .ref 68, .int 0, .ref 69, .int 0, .int 0, .ref 70, .ref 71]) rfl rfl rfl (hh 41 (Nat.le_of_ble_eq_true rfl)) (Nat.le_of_ble_eq_true rfl) (Nat.le_of_ble_eq_true rfl) (Nat.le_of_ble_eq_true rfl) rfl (Or.inl rfl) rfl rfl ?_
        refine pm_R_lo pm_M268 (pc' := 6) rfl rfl rfl ?_
        refine pm_R_lo pm_M268 (pc' := 7) rfl rfl rfl ?_
        refine pm_R_lo pm_M268 (pc' := 9) rfl rfl rfl ?_
        refine pm_R_lo pm_M268 (pc' := 11) rfl rfl rfl ?_
        refine pm_R_cv pm_M268 (pc' := 14) (a := 41) (ra := [.int x5, .int x4, .int x3]) (rest := []) (ls' := [.ref 41, .int x3, .int x4, .int x5, pm_no, pm_no, pm_no, pm_no, pm_no]) rfl rfl (Or.inl rfl) pm_M266 rfl rfl (Nat.le_of_ble_eq_true rfl) (Nat.le_of_ble_eq_true rfl) rfl rfl (Nat.le_of_ble_eq_true rfl) rfl rfl ?_
        refine pm_R_lo pm_M266 (pc' := 1) rfl rfl rfl ?_
        refine pm_R_lo pm_M266 (pc' := 2) rfl rfl rfl ?_
        refine pm_R_cv pm_M266 (pc' := 5) (a := 41) (ra := [.int x3]) (rest := []) (ls' := [.ref 41, .int x3, pm_no, pm_no, pm_no, pm_no]) rfl rfl (Or.inl rfl) pm_M254 rfl rfl (Nat.le_of_ble_eq_true rfl) (Nat.le_of_ble_eq_true rfl) rfl rfl (Nat.le_of_ble_eq_true rfl) rfl rfl ?_
        refine pm_R_lo pm_M254 (pc' := 1) rfl rfl rfl ?_
        refine pm_R_op pm_M254 (pc' := 2) (st' := [.int 2, .ref 41]) rfl rfl rfl ?_
        refine pm_R_lo pm_M254 (pc' := 3) rfl rfl rfl ?_
        refine pm_R_cv pm_M254 (pc' := 6) (a := 41) (ra := [.int x3, .int 2]) (rest := []) (ls' := [.ref 41, .int 2, .int x3]) rfl rfl (Or.inl rfl) pm_M177 rfl rfl (Nat.le_of_ble_eq_true rfl) (Nat.le_of_ble_eq_true rfl) rfl rfl (Nat.le_of_ble_eq_true rfl) rfl rfl ?_
        refine pm_R_lo pm_M177 (pc' := 1) rfl rfl rfl ?_
        refine pm_R_op pm_M177 (pc' := 2) (st' := [.int 0, .int x3]) rfl rfl rfl ?_
        refine pm_R_lo pm_M177 (pc' := 3) rfl rfl rfl ?_
        refine pm_R_get pm_M177 (pc' := 6) (v := .ref 46) rfl rfl rfl (Nat.le_of_ble_eq_true rfl) (Nat.le_of_ble_eq_true rfl) rfl rfl ?_
        refine pm_R_lo pm_M177 (pc' := 7) rfl rfl rfl ?_
        refine pm_R_iald pm_M177 (pc' := 8) (v := 0) rfl (hh 46 (Nat.le_of_ble_eq_true rfl)) (Nat.le_of_ble_eq_true rfl) rfl rfl rfl ?_
        refine pm_R_op pm_M177 (pc' := 9) (st' := [.int 1, .int 0, .int 0, .int x3]) rfl rfl rfl ?_
        refine pm_R_op pm_M177 (pc' := 10) (st' := [.int (-1), .int 0, .int x3]) rfl rfl rfl ?_
        refine pm_R_cs pm_M177 (pc' := 13) (ra := [.int (-1), .int 0, .int x3]) (rest := []) (ls' := [.int x3, .int 0, .int (-1)]) rfl rfl (Or.inl rfl) pm_M174 rfl rfl (Nat.le_of_ble_eq_true rfl) rfl rfl ?_
        refine pm_R_lo pm_M174 (pc' := 1) rfl rfl rfl ?_
        refine pm_R_lo pm_M174 (pc' := 2) rfl rfl rfl ?_
        refine pm_R_icmp pm_M174 (t := 14) (pc' := 5) rfl rfl rfl (fun c_6 => by exact absurd c_6 c_3) (fun c_6 => ?_)
        refine pm_R_lo pm_M174 (pc' := 6) rfl rfl rfl ?_
        refine pm_R_lo pm_M174 (pc' := 7) rfl rfl rfl ?_
        refine pm_R_icmp pm_M174 (t := 14) (pc' := 10) rfl rfl rfl (fun c_7 => ?_) (fun c_7 => by have z0 : ((-1) : Int32).toInt = -1 := (by decide); have z1 : ((0) : Int32).toInt = 0 := (by decide); have q0 := (Int32.le_iff_toInt_le.mp (Int32.not_lt.mp c_3)); have q1 := (Int32.le_iff_toInt_le.mp (Int32.not_lt.mp c_7)); exfalso; omega)
        refine pm_R_op pm_M174 (pc' := 15) (st' := [.int 0]) rfl rfl rfl ?_
        refine pm_R_ret pm_M174 (r := some (.int 0)) rfl rfl ?_
        show pm_R _ 177 13 [.ref 41, .int 2, .int x3] [.int 0] _ _
        refine pm_R_ret pm_M177 (r := some (.int 0)) rfl rfl ?_
        show pm_R _ 254 6 [.ref 41, .int x3, pm_no, pm_no, pm_no, pm_no] [.int 0] _ _
        refine pm_R_br pm_M254 (pc' := 9) (st' := []) rfl rfl ?_
        refine pm_R_op pm_M254 (pc' := 10) (st' := [.int 0]) rfl rfl rfl ?_
        refine pm_R_ret pm_M254 (r := some (.int 0)) rfl rfl ?_
        show pm_R _ 266 5 [.ref 41, .int x3, .int x4, .int x5, pm_no, pm_no, pm_no, pm_no, pm_no] [.int 0] _ _
        refine pm_R_br pm_M266 (pc' := 29) (st' := []) rfl rfl ?_
        refine pm_R_op pm_M266 (pc' := 30) (st' := [.int (-1)]) rfl rfl rfl ?_
        refine pm_R_ret pm_M266 (r := some (.int (-1))) rfl rfl ?_
        show pm_R _ 268 14 [.ref 41, .int x1, .int x2, .int x3, .int x4, .int x5, pm_no] [.int (-1)] _ _
        refine pm_R_lo pm_M268 (pc' := 16) (ls' := [.ref 41, .int x1, .int x2, .int x3, .int x4, .int x5, .int (-1)]) (st' := []) rfl rfl rfl ?_
        refine pm_R_lo pm_M268 (pc' := 18) rfl rfl rfl ?_
        refine pm_R_op pm_M268 (pc' := 19) (st' := [.int (-1), .int (-1)]) rfl rfl rfl ?_
        refine pm_R_br pm_M268 (pc' := 46) (st' := []) rfl rfl ?_
        refine pm_R_op pm_M268 (pc' := 47) (st' := [.int 0]) rfl rfl rfl ?_
        refine pm_R_ret pm_M268 (r := some (.int 0)) rfl rfl ?_
        show pm_R _ 0 1472 [.ref 0, .ref 16, .ref 41, .int 0] [.int 0, .int 0] _ _
        refine pm_R_br pm_M0 (pc' := 2121) (st' := []) (pm_q0_18 (Nat.le_of_ble_eq_true rfl)) rfl ?_
        exact p1_tail (hh 0 (Nat.le_of_ble_eq_true rfl)) (Nat.le_of_ble_eq_true rfl) (Nat.le_of_ble_eq_true rfl) (Nat.le_of_ble_eq_true rfl)
    · refine pm_R_lo pm_M66 (pc' := 5) rfl rfl rfl ?_
      refine pm_R_lo pm_M66 (pc' := 6) rfl rfl rfl ?_
      refine pm_R_get pm_M66 (pc' := 9) (v := .ref 17) rfl rfl (hh 16 (Nat.le_of_ble_eq_true rfl)) (Nat.le_of_ble_eq_true rfl) (Nat.le_of_ble_eq_true rfl) rfl rfl ?_
      refine pm_R_get pm_M66 (pc' := 12) (v := .ref 23) rfl rfl (hh 17 (Nat.le_of_ble_eq_true rfl)) (Nat.le_of_ble_eq_true rfl) (Nat.le_of_ble_eq_true rfl) rfl rfl ?_
      refine pm_R_op pm_M66 (pc' := 13) (st' := [.int 1, .ref 23, .int x2]) rfl rfl rfl ?_
      refine pm_R_iald pm_M66 (pc' := 14) (v := 0) rfl (hh 23 (Nat.le_of_ble_eq_true rfl)) (Nat.le_of_ble_eq_true rfl) rfl rfl rfl ?_
      refine pm_R_icmp pm_M66 (t := 21) (pc' := 17) rfl rfl rfl (fun c_8 => by exact absurd c_8 c_2) (fun c_8 => ?_)
      refine pm_R_op pm_M66 (pc' := 18) (st' := [.null]) rfl rfl rfl ?_
      refine pm_R_br pm_M66 (pc' := 30) rfl rfl ?_
      refine pm_R_ret pm_M66 (r := some (.null)) rfl rfl ?_
      show pm_R _ 155 12 [.ref 16, .int x1, .int x2, .int x3, .int x4, .int x5, .null, pm_no, pm_no, pm_no, pm_no] [.null] _ _
      refine pm_R_lo pm_M155 (pc' := 14) (ls' := [.ref 16, .int x1, .int x2, .int x3, .int x4, .int x5, .null, .null, pm_no, pm_no, pm_no]) (st' := []) rfl rfl rfl ?_
      refine pm_R_lo pm_M155 (pc' := 15) rfl rfl rfl ?_
      refine pm_R_lo pm_M155 (pc' := 16) rfl rfl rfl ?_
      refine pm_R_lo pm_M155 (pc' := 18) rfl rfl rfl ?_
      refine pm_R_lo pm_M155 (pc' := 20) rfl rfl rfl ?_
      refine pm_R_cv pm_M155 (pc' := 23) (a := 16) (ra := [.int x5, .int x4, .int x3]) (rest := []) (ls' := [.ref 16, .int x3, .int x4, .int x5, pm_no]) rfl rfl (Or.inl rfl) pm_M152 (hh 16 (Nat.le_of_ble_eq_true rfl)) rfl (Nat.le_of_ble_eq_true rfl) (Nat.le_of_ble_eq_true rfl) rfl rfl (Nat.le_of_ble_eq_true rfl) rfl rfl ?_
      refine pm_R_lo pm_M152 (pc' := 1) rfl rfl rfl ?_
      refine pm_R_lo pm_M152 (pc' := 2) rfl rfl rfl ?_
      refine pm_R_cv pm_M152 (pc' := 5) (a := 16) (ra := [.int x3]) (rest := []) (ls' := [.ref 16, .int x3]) rfl rfl (Or.inl rfl) pm_M139 (hh 16 (Nat.le_of_ble_eq_true rfl)) rfl (Nat.le_of_ble_eq_true rfl) (Nat.le_of_ble_eq_true rfl) rfl rfl (Nat.le_of_ble_eq_true rfl) rfl rfl ?_
      refine pm_R_lo pm_M139 (pc' := 1) rfl rfl rfl ?_
      refine pm_R_ifc pm_M139 (t := 17) (pc' := 4) rfl rfl rfl (fun c_9 => ?_) (fun c_9 => ?_)
      · refine pm_R_op pm_M139 (pc' := 18) (st' := [.null]) rfl rfl rfl ?_
        refine pm_R_br pm_M139 (pc' := 30) rfl rfl ?_
        refine pm_R_ret pm_M139 (r := some (.null)) rfl rfl ?_
        show pm_R _ 152 5 [.ref 16, .int x3, .int x4, .int x5, pm_no] [.null] _ _
        refine pm_R_lo pm_M152 (pc' := 7) (ls' := [.ref 16, .int x3, .int x4, .int x5, .null]) (st' := []) rfl rfl rfl ?_
        refine pm_R_lo pm_M152 (pc' := 9) rfl rfl rfl ?_
        refine pm_R_br pm_M152 (pc' := 35) rfl rfl ?_
        refine pm_R_op pm_M152 (pc' := 36) (st' := [.int (-1)]) rfl rfl rfl ?_
        refine pm_R_ret pm_M152 (r := some (.int (-1))) rfl rfl ?_
        show pm_R _ 155 23 [.ref 16, .int x1, .int x2, .int x3, .int x4, .int x5, .null, .null, pm_no, pm_no, pm_no] [.int (-1)] _ _
        refine pm_R_lo pm_M155 (pc' := 25) (ls' := [.ref 16, .int x1, .int x2, .int x3, .int x4, .int x5, .null, .null, .int (-1), pm_no, pm_no]) (st' := []) rfl rfl rfl ?_
        refine pm_R_lo pm_M155 (pc' := 27) rfl rfl rfl ?_
        refine pm_R_br pm_M155 (pc' := 41) rfl rfl ?_
        refine pm_R_op pm_M155 (pc' := 42) (st' := [.int 0]) rfl rfl rfl ?_
        refine pm_R_ret pm_M155 (r := some (.int 0)) rfl rfl ?_
        show pm_R _ 0 1443 [.ref 0, .ref 16, .ref 41, .int 0] [.int 0] _ _
        refine pm_R_lo pm_M0 (pc' := 1444) (pm_q0_17 (Nat.le_of_ble_eq_true rfl)) rfl rfl ?_
        refine pm_R_lo pm_M0 (pc' := 1445) (pm_q0_17 (Nat.le_of_ble_eq_true rfl)) rfl rfl ?_
        refine pm_R_lo pm_M0 (pc' := 1446) (pm_q0_17 (Nat.le_of_ble_eq_true rfl)) rfl rfl ?_
        refine pm_R_op pm_M0 (pc' := 1447) (st' := [.int 1, .int 0, .ref 0, .ref 41, .int 0]) (pm_q0_17 (Nat.le_of_ble_eq_true rfl)) rfl rfl ?_
        refine pm_R_op pm_M0 (pc' := 1448) (st' := [.int 1, .ref 0, .ref 41, .int 0]) (pm_q0_17 (Nat.le_of_ble_eq_true rfl)) rfl rfl ?_
        refine pm_R_iald pm_M0 (pc' := 1449) (v := x1) (pm_q0_18 (Nat.le_of_ble_eq_true rfl)) (hh 0 (Nat.le_of_ble_eq_true rfl)) (Nat.le_of_ble_eq_true rfl) rfl hx1 rfl ?_
        refine pm_R_lo pm_M0 (pc' := 1450) (pm_q0_18 (Nat.le_of_ble_eq_true rfl)) rfl rfl ?_
        refine pm_R_lo pm_M0 (pc' := 1451) (pm_q0_18 (Nat.le_of_ble_eq_true rfl)) rfl rfl ?_
        refine pm_R_op pm_M0 (pc' := 1452) (st' := [.int 2, .int 0, .ref 0, .int x1, .ref 41, .int 0]) (pm_q0_18 (Nat.le_of_ble_eq_true rfl)) rfl rfl ?_
        refine pm_R_op pm_M0 (pc' := 1453) (st' := [.int 2, .ref 0, .int x1, .ref 41, .int 0]) (pm_q0_18 (Nat.le_of_ble_eq_true rfl)) rfl rfl ?_
        refine pm_R_iald pm_M0 (pc' := 1454) (v := x2) (pm_q0_18 (Nat.le_of_ble_eq_true rfl)) (hh 0 (Nat.le_of_ble_eq_true rfl)) (Nat.le_of_ble_eq_true rfl) rfl hx2 rfl ?_
        refine pm_R_lo pm_M0 (pc' := 1455) (pm_q0_18 (Nat.le_of_ble_eq_true rfl)) rfl rfl ?_
        refine pm_R_lo pm_M0 (pc' := 1456) (pm_q0_18 (Nat.le_of_ble_eq_true rfl)) rfl rfl ?_
        refine pm_R_op pm_M0 (pc' := 1457) (st' := [.int 3, .int 0, .ref 0, .int x2, .int x1, .ref 41, .int 0]) (pm_q0_18 (Nat.le_of_ble_eq_true rfl)) rfl rfl ?_
        refine pm_R_op pm_M0 (pc' := 1458) (st' := [.int 3, .ref 0, .int x2, .int x1, .ref 41, .int 0]) (pm_q0_18 (Nat.le_of_ble_eq_true rfl)) rfl rfl ?_
        refine pm_R_iald pm_M0 (pc' := 1459) (v := x3) (pm_q0_18 (Nat.le_of_ble_eq_true rfl)) (hh 0 (Nat.le_of_ble_eq_true rfl)) (Nat.le_of_ble_eq_true rfl) rfl hx3 rfl ?_
        refine pm_R_lo pm_M0 (pc' := 1460) (pm_q0_18 (Nat.le_of_ble_eq_true rfl)) rfl rfl ?_
        refine pm_R_lo pm_M0 (pc' := 1461) (pm_q0_18 (Nat.le_of_ble_eq_true rfl)) rfl rfl ?_
        refine pm_R_op pm_M0 (pc' := 1462) (st' := [.int 4, .int 0, .ref 0, .int x3, .int x2, .int x1, .ref 41, .int 0]) (pm_q0_18 (Nat.le_of_ble_eq_true rfl)) rfl rfl ?_
        refine pm_R_op pm_M0 (pc' := 1463) (st' := [.int 4, .ref 0, .int x3, .int x2, .int x1, .ref 41, .int 0]) (pm_q0_18 (Nat.le_of_ble_eq_true rfl)) rfl rfl ?_
        refine pm_R_iald pm_M0 (pc' := 1464) (v := x4) (pm_q0_18 (Nat.le_of_ble_eq_true rfl)) (hh 0 (Nat.le_of_ble_eq_true rfl)) (Nat.le_of_ble_eq_true rfl) rfl hx4 rfl ?_
        refine pm_R_lo pm_M0 (pc' := 1465) (pm_q0_18 (Nat.le_of_ble_eq_true rfl)) rfl rfl ?_
        refine pm_R_lo pm_M0 (pc' := 1466) (pm_q0_18 (Nat.le_of_ble_eq_true rfl)) rfl rfl ?_
        refine pm_R_op pm_M0 (pc' := 1467) (st' := [.int 5, .int 0, .ref 0, .int x4, .int x3, .int x2, .int x1, .ref 41, .int 0]) (pm_q0_18 (Nat.le_of_ble_eq_true rfl)) rfl rfl ?_
        refine pm_R_op pm_M0 (pc' := 1468) (st' := [.int 5, .ref 0, .int x4, .int x3, .int x2, .int x1, .ref 41, .int 0]) (pm_q0_18 (Nat.le_of_ble_eq_true rfl)) rfl rfl ?_
        refine pm_R_iald pm_M0 (pc' := 1469) (v := x5) (pm_q0_18 (Nat.le_of_ble_eq_true rfl)) (hh 0 (Nat.le_of_ble_eq_true rfl)) (Nat.le_of_ble_eq_true rfl) rfl hx5 rfl ?_
        refine pm_R_cv pm_M0 (pc' := 1472) (a := 41) (ra := [.int x5, .int x4, .int x3, .int x2, .int x1]) (rest := [.int 0]) (ls' := [.ref 41, .int x1, .int x2, .int x3, .int x4, .int x5, pm_no]) (pm_q0_18 (Nat.le_of_ble_eq_true rfl)) rfl (Or.inl rfl) pm_M268 (hh 41 (Nat.le_of_ble_eq_true rfl)) rfl (Nat.le_of_ble_eq_true rfl) (Nat.le_of_ble_eq_true rfl) rfl rfl (Nat.le_of_ble_eq_true rfl) rfl rfl ?_
        refine pm_R_lo pm_M268 (pc' := 1) rfl rfl rfl ?_
        refine pm_R_op pm_M268 (pc' := 2) (st' := [.int 0, .ref 41]) rfl rfl rfl ?_
        refine pm_R_put pm_M268 (pc' := 5) (fs' := [.int 0, .ref 42, .ref 43, .ref 44, .ref 45, .ref 46, .ref 47, .ref 48, .ref 49, .ref 50, .int 0, .int 0, .int 0, .int 0, .int 0, .long 0, .int 0, .int 0, .int 0, .ref 51, .ref 52, .int 0, .int 0, .int 0, .int 0, .ref 53, .int 0, .int 0, .ref 54, .ref 55, .ref 56, .int 0, .ref 57, .ref 58, .ref 59, .ref 60, .ref 61, .ref 62, .ref 63, .ref 64, .ref 65, .ref 66, .int 0, .int 0, .int 0, .ref 67, .ref 68, .int 0, .ref 69, .int 0, .int 0, .ref 70, .ref 71]) rfl rfl rfl (hh 41 (Nat.le_of_ble_eq_true rfl)) (Nat.le_of_ble_eq_true rfl) (Nat.le_of_ble_eq_true rfl) (Nat.le_of_ble_eq_true rfl) rfl (Or.inl rfl) rfl rfl ?_
        refine pm_R_lo pm_M268 (pc' := 6) rfl rfl rfl ?_
        refine pm_R_lo pm_M268 (pc' := 7) rfl rfl rfl ?_
        refine pm_R_lo pm_M268 (pc' := 9) rfl rfl rfl ?_
        refine pm_R_lo pm_M268 (pc' := 11) rfl rfl rfl ?_
        refine pm_R_cv pm_M268 (pc' := 14) (a := 41) (ra := [.int x5, .int x4, .int x3]) (rest := []) (ls' := [.ref 41, .int x3, .int x4, .int x5, pm_no, pm_no, pm_no, pm_no, pm_no]) rfl rfl (Or.inl rfl) pm_M266 rfl rfl (Nat.le_of_ble_eq_true rfl) (Nat.le_of_ble_eq_true rfl) rfl rfl (Nat.le_of_ble_eq_true rfl) rfl rfl ?_
        refine pm_R_lo pm_M266 (pc' := 1) rfl rfl rfl ?_
        refine pm_R_lo pm_M266 (pc' := 2) rfl rfl rfl ?_
        refine pm_R_cv pm_M266 (pc' := 5) (a := 41) (ra := [.int x3]) (rest := []) (ls' := [.ref 41, .int x3, pm_no, pm_no, pm_no, pm_no]) rfl rfl (Or.inl rfl) pm_M254 rfl rfl (Nat.le_of_ble_eq_true rfl) (Nat.le_of_ble_eq_true rfl) rfl rfl (Nat.le_of_ble_eq_true rfl) rfl rfl ?_
        refine pm_R_lo pm_M254 (pc' := 1) rfl rfl rfl ?_
        refine pm_R_op pm_M254 (pc' := 2) (st' := [.int 2, .ref 41]) rfl rfl rfl ?_
        refine pm_R_lo pm_M254 (pc' := 3) rfl rfl rfl ?_
        refine pm_R_cv pm_M254 (pc' := 6) (a := 41) (ra := [.int x3, .int 2]) (rest := []) (ls' := [.ref 41, .int 2, .int x3]) rfl rfl (Or.inl rfl) pm_M177 rfl rfl (Nat.le_of_ble_eq_true rfl) (Nat.le_of_ble_eq_true rfl) rfl rfl (Nat.le_of_ble_eq_true rfl) rfl rfl ?_
        refine pm_R_lo pm_M177 (pc' := 1) rfl rfl rfl ?_
        refine pm_R_op pm_M177 (pc' := 2) (st' := [.int 0, .int x3]) rfl rfl rfl ?_
        refine pm_R_lo pm_M177 (pc' := 3) rfl rfl rfl ?_
        refine pm_R_get pm_M177 (pc' := 6) (v := .ref 46) rfl rfl rfl (Nat.le_of_ble_eq_true rfl) (Nat.le_of_ble_eq_true rfl) rfl rfl ?_
        refine pm_R_lo pm_M177 (pc' := 7) rfl rfl rfl ?_
        refine pm_R_iald pm_M177 (pc' := 8) (v := 0) rfl (hh 46 (Nat.le_of_ble_eq_true rfl)) (Nat.le_of_ble_eq_true rfl) rfl rfl rfl ?_
        refine pm_R_op pm_M177 (pc' := 9) (st' := [.int 1, .int 0, .int 0, .int x3]) rfl rfl rfl ?_
        refine pm_R_op pm_M177 (pc' := 10) (st' := [.int (-1), .int 0, .int x3]) rfl rfl rfl ?_
        refine pm_R_cs pm_M177 (pc' := 13) (ra := [.int (-1), .int 0, .int x3]) (rest := []) (ls' := [.int x3, .int 0, .int (-1)]) rfl rfl (Or.inl rfl) pm_M174 rfl rfl (Nat.le_of_ble_eq_true rfl) rfl rfl ?_
        refine pm_R_lo pm_M174 (pc' := 1) rfl rfl rfl ?_
        refine pm_R_lo pm_M174 (pc' := 2) rfl rfl rfl ?_
        refine pm_R_icmp pm_M174 (t := 14) (pc' := 5) rfl rfl rfl (fun c_10 => ?_) (fun c_10 => by exact absurd c_9 c_10)
        refine pm_R_op pm_M174 (pc' := 15) (st' := [.int 0]) rfl rfl rfl ?_
        refine pm_R_ret pm_M174 (r := some (.int 0)) rfl rfl ?_
        show pm_R _ 177 13 [.ref 41, .int 2, .int x3] [.int 0] _ _
        refine pm_R_ret pm_M177 (r := some (.int 0)) rfl rfl ?_
        show pm_R _ 254 6 [.ref 41, .int x3, pm_no, pm_no, pm_no, pm_no] [.int 0] _ _
        refine pm_R_br pm_M254 (pc' := 9) (st' := []) rfl rfl ?_
        refine pm_R_op pm_M254 (pc' := 10) (st' := [.int 0]) rfl rfl rfl ?_
        refine pm_R_ret pm_M254 (r := some (.int 0)) rfl rfl ?_
        show pm_R _ 266 5 [.ref 41, .int x3, .int x4, .int x5, pm_no, pm_no, pm_no, pm_no, pm_no] [.int 0] _ _
        refine pm_R_br pm_M266 (pc' := 29) (st' := []) rfl rfl ?_
        refine pm_R_op pm_M266 (pc' := 30) (st' := [.int (-1)]) rfl rfl rfl ?_
        refine pm_R_ret pm_M266 (r := some (.int (-1))) rfl rfl ?_
        show pm_R _ 268 14 [.ref 41, .int x1, .int x2, .int x3, .int x4, .int x5, pm_no] [.int (-1)] _ _
        refine pm_R_lo pm_M268 (pc' := 16) (ls' := [.ref 41, .int x1, .int x2, .int x3, .int x4, .int x5, .int (-1)]) (st' := []) rfl rfl rfl ?_
        refine pm_R_lo pm_M268 (pc' := 18) rfl rfl rfl ?_
        refine pm_R_op pm_M268 (pc' := 19) (st' := [.int (-1), .int (-1)]) rfl rfl rfl ?_
        refine pm_R_br pm_M268 (pc' := 46) (st' := []) rfl rfl ?_
        refine pm_R_op pm_M268 (pc' := 47) (st' := [.int 0]) rfl rfl rfl ?_
        refine pm_R_ret pm_M268 (r := some (.int 0)) rfl rfl ?_
        show pm_R _ 0 1472 [.ref 0, .ref 16, .ref 41, .int 0] [.int 0, .int 0] _ _
        refine pm_R_br pm_M0 (pc' := 2121) (st' := []) (pm_q0_18 (Nat.le_of_ble_eq_true rfl)) rfl ?_
        exact p1_tail (hh 0 (Nat.le_of_ble_eq_true rfl)) (Nat.le_of_ble_eq_true rfl) (Nat.le_of_ble_eq_true rfl) (Nat.le_of_ble_eq_true rfl)
      · refine pm_R_lo pm_M139 (pc' := 5) rfl rfl rfl ?_
        refine pm_R_lo pm_M139 (pc' := 6) rfl rfl rfl ?_
        refine pm_R_get pm_M139 (pc' := 9) (v := .ref 17) rfl rfl (hh 16 (Nat.le_of_ble_eq_true rfl)) (Nat.le_of_ble_eq_true rfl) (Nat.le_of_ble_eq_true rfl) rfl rfl ?_
        refine pm_R_get pm_M139 (pc' := 12) (v := .ref 23) rfl rfl (hh 17 (Nat.le_of_ble_eq_true rfl)) (Nat.le_of_ble_eq_true rfl) (Nat.le_of_ble_eq_true rfl) rfl rfl ?_
        refine pm_R_op pm_M139 (pc' := 13) (st' := [.int 2, .ref 23, .int x3]) rfl rfl rfl ?_
        refine pm_R_iald pm_M139 (pc' := 14) (v := 0) rfl (hh 23 (Nat.le_of_ble_eq_true rfl)) (Nat.le_of_ble_eq_true rfl) rfl rfl rfl ?_
        refine pm_R_icmp pm_M139 (t := 21) (pc' := 17) rfl rfl rfl (fun c_11 => by exact absurd c_11 c_9) (fun c_11 => ?_)
        refine pm_R_op pm_M139 (pc' := 18) (st' := [.null]) rfl rfl rfl ?_
        refine pm_R_br pm_M139 (pc' := 30) rfl rfl ?_
        refine pm_R_ret pm_M139 (r := some (.null)) rfl rfl ?_
        show pm_R _ 152 5 [.ref 16, .int x3, .int x4, .int x5, pm_no] [.null] _ _
        refine pm_R_lo pm_M152 (pc' := 7) (ls' := [.ref 16, .int x3, .int x4, .int x5, .null]) (st' := []) rfl rfl rfl ?_
        refine pm_R_lo pm_M152 (pc' := 9) rfl rfl rfl ?_
        refine pm_R_br pm_M152 (pc' := 35) rfl rfl ?_
        refine pm_R_op pm_M152 (pc' := 36) (st' := [.int (-1)]) rfl rfl rfl ?_
        refine pm_R_ret pm_M152 (r := some (.int (-1))) rfl rfl ?_
        show pm_R _ 155 23 [.ref 16, .int x1, .int x2, .int x3, .int x4, .int x5, .null, .null, pm_no, pm_no, pm_no] [.int (-1)] _ _
        refine pm_R_lo pm_M155 (pc' := 25) (ls' := [.ref 16, .int x1, .int x2, .int x3, .int x4, .int x5, .null, .null, .int (-1), pm_no, pm_no]) (st' := []) rfl rfl rfl ?_
        refine pm_R_lo pm_M155 (pc' := 27) rfl rfl rfl ?_
        refine pm_R_br pm_M155 (pc' := 41) rfl rfl ?_
        refine pm_R_op pm_M155 (pc' := 42) (st' := [.int 0]) rfl rfl rfl ?_
        refine pm_R_ret pm_M155 (r := some (.int 0)) rfl rfl ?_
        show pm_R _ 0 1443 [.ref 0, .ref 16, .ref 41, .int 0] [.int 0] _ _
        refine pm_R_lo pm_M0 (pc' := 1444) (pm_q0_17 (Nat.le_of_ble_eq_true rfl)) rfl rfl ?_
        refine pm_R_lo pm_M0 (pc' := 1445) (pm_q0_17 (Nat.le_of_ble_eq_true rfl)) rfl rfl ?_
        refine pm_R_lo pm_M0 (pc' := 1446) (pm_q0_17 (Nat.le_of_ble_eq_true rfl)) rfl rfl ?_
        refine pm_R_op pm_M0 (pc' := 1447) (st' := [.int 1, .int 0, .ref 0, .ref 41, .int 0]) (pm_q0_17 (Nat.le_of_ble_eq_true rfl)) rfl rfl ?_
        refine pm_R_op pm_M0 (pc' := 1448) (st' := [.int 1, .ref 0, .ref 41, .int 0]) (pm_q0_17 (Nat.le_of_ble_eq_true rfl)) rfl rfl ?_
        refine pm_R_iald pm_M0 (pc' := 1449) (v := x1) (pm_q0_18 (Nat.le_of_ble_eq_true rfl)) (hh 0 (Nat.le_of_ble_eq_true rfl)) (Nat.le_of_ble_eq_true rfl) rfl hx1 rfl ?_
        refine pm_R_lo pm_M0 (pc' := 1450) (pm_q0_18 (Nat.le_of_ble_eq_true rfl)) rfl rfl ?_
        refine pm_R_lo pm_M0 (pc' := 1451) (pm_q0_18 (Nat.le_of_ble_eq_true rfl)) rfl rfl ?_
        refine pm_R_op pm_M0 (pc' := 1452) (st' := [.int 2, .int 0, .ref 0, .int x1, .ref 41, .int 0]) (pm_q0_18 (Nat.le_of_ble_eq_true rfl)) rfl rfl ?_
        refine pm_R_op pm_M0 (pc' := 1453) (st' := [.int 2, .ref 0, .int x1, .ref 41, .int 0]) (pm_q0_18 (Nat.le_of_ble_eq_true rfl)) rfl rfl ?_
        refine pm_R_iald pm_M0 (pc' := 1454) (v := x2) (pm_q0_18 (Nat.le_of_ble_eq_true rfl)) (hh 0 (Nat.le_of_ble_eq_true rfl)) (Nat.le_of_ble_eq_true rfl) rfl hx2 rfl ?_
        refine pm_R_lo pm_M0 (pc' := 1455) (pm_q0_18 (Nat.le_of_ble_eq_true rfl)) rfl rfl ?_
        refine pm_R_lo pm_M0 (pc' := 1456) (pm_q0_18 (Nat.le_of_ble_eq_true rfl)) rfl rfl ?_
        refine pm_R_op pm_M0 (pc' := 1457) (st' := [.int 3, .int 0, .ref 0, .int x2, .int x1, .ref 41, .int 0]) (pm_q0_18 (Nat.le_of_ble_eq_true rfl)) rfl rfl ?_
        refine pm_R_op pm_M0 (pc' := 1458) (st' := [.int 3, .ref 0, .int x2, .int x1, .ref 41, .int 0]) (pm_q0_18 (Nat.le_of_ble_eq_true rfl)) rfl rfl ?_
        refine pm_R_iald pm_M0 (pc' := 1459) (v := x3) (pm_q0_18 (Nat.le_of_ble_eq_true rfl)) (hh 0 (Nat.le_of_ble_eq_true rfl)) (Nat.le_of_ble_eq_true rfl) rfl hx3 rfl ?_
        refine pm_R_lo pm_M0 (pc' := 1460) (pm_q0_18 (Nat.le_of_ble_eq_true rfl)) rfl rfl ?_
        refine pm_R_lo pm_M0 (pc' := 1461) (pm_q0_18 (Nat.le_of_ble_eq_true rfl)) rfl rfl ?_
        refine pm_R_op pm_M0 (pc' := 1462) (st' := [.int 4, .int 0, .ref 0, .int x3, .int x2, .int x1, .ref 41, .int 0]) (pm_q0_18 (Nat.le_of_ble_eq_true rfl)) rfl rfl ?_
        refine pm_R_op pm_M0 (pc' := 1463) (st' := [.int 4, .ref 0, .int x3, .int x2, .int x1, .ref 41, .int 0]) (pm_q0_18 (Nat.le_of_ble_eq_true rfl)) rfl rfl ?_
        refine pm_R_iald pm_M0 (pc' := 1464) (v := x4) (pm_q0_18 (Nat.le_of_ble_eq_true rfl)) (hh 0 (Nat.le_of_ble_eq_true rfl)) (Nat.le_of_ble_eq_true rfl) rfl hx4 rfl ?_
        refine pm_R_lo pm_M0 (pc' := 1465) (pm_q0_18 (Nat.le_of_ble_eq_true rfl)) rfl rfl ?_
        refine pm_R_lo pm_M0 (pc' := 1466) (pm_q0_18 (Nat.le_of_ble_eq_true rfl)) rfl rfl ?_
        refine pm_R_op pm_M0 (pc' := 1467) (st' := [.int 5, .int 0, .ref 0, .int x4, .int x3, .int x2, .int x1, .ref 41, .int 0]) (pm_q0_18 (Nat.le_of_ble_eq_true rfl)) rfl rfl ?_
        refine pm_R_op pm_M0 (pc' := 1468) (st' := [.int 5, .ref 0, .int x4, .int x3, .int x2, .int x1, .ref 41, .int 0]) (pm_q0_18 (Nat.le_of_ble_eq_true rfl)) rfl rfl ?_
        refine pm_R_iald pm_M0 (pc' := 1469) (v := x5) (pm_q0_18 (Nat.le_of_ble_eq_true rfl)) (hh 0 (Nat.le_of_ble_eq_true rfl)) (Nat.le_of_ble_eq_true rfl) rfl hx5 rfl ?_
        refine pm_R_cv pm_M0 (pc' := 1472) (a := 41) (ra := [.int x5, .int x4, .int x3, .int x2, .int x1]) (rest := [.int 0]) (ls' := [.ref 41, .int x1, .int x2, .int x3, .int x4, .int x5, pm_no]) (pm_q0_18 (Nat.le_of_ble_eq_true rfl)) rfl (Or.inl rfl) pm_M268 (hh 41 (Nat.le_of_ble_eq_true rfl)) rfl (Nat.le_of_ble_eq_true rfl) (Nat.le_of_ble_eq_true rfl) rfl rfl (Nat.le_of_ble_eq_true rfl) rfl rfl ?_
        refine pm_R_lo pm_M268 (pc' := 1) rfl rfl rfl ?_
        refine pm_R_op pm_M268 (pc' := 2) (st' := [.int 0, .ref 41]) rfl rfl rfl ?_
        refine pm_R_put pm_M268 (pc' := 5) (fs' := [.int 0, .ref 42, .ref 43, .ref 44, .ref 45, .ref 46, .ref 47, .ref 48, .ref 49, .ref 50, .int 0, .int 0, .int 0, .int 0, .int 0, .long 0, .int 0, .int 0, .int 0, .ref 51, .ref 52, .int 0, .int 0, .int 0, .int 0, .ref 53, .int 0, .int 0, .ref 54, .ref 55, .ref 56, .int 0, .ref 57, .ref 58, .ref 59, .ref 60, .ref 61, .ref 62, .ref 63, .ref 64, .ref 65, .ref 66, .int 0, .int 0, .int 0, .ref 67, .ref 68, .int 0, .ref 69, .int 0, .int 0, .ref 70, .ref 71]) rfl rfl rfl (hh 41 (Nat.le_of_ble_eq_true rfl)) (Nat.le_of_ble_eq_true rfl) (Nat.le_of_ble_eq_true rfl) (Nat.le_of_ble_eq_true rfl) rfl (Or.inl rfl) rfl rfl ?_
        refine pm_R_lo pm_M268 (pc' := 6) rfl rfl rfl ?_
        refine pm_R_lo pm_M268 (pc' := 7) rfl rfl rfl ?_
        refine pm_R_lo pm_M268 (pc' := 9) rfl rfl rfl ?_
        refine pm_R_lo pm_M268 (pc' := 11) rfl rfl rfl ?_
        refine pm_R_cv pm_M268 (pc' := 14) (a := 41) (ra := [.int x5, .int x4, .int x3]) (rest := []) (ls' := [.ref 41, .int x3, .int x4, .int x5, pm_no, pm_no, pm_no, pm_no, pm_no]) rfl rfl (Or.inl rfl) pm_M266 rfl rfl (Nat.le_of_ble_eq_true rfl) (Nat.le_of_ble_eq_true rfl) rfl rfl (Nat.le_of_ble_eq_true rfl) rfl rfl ?_
        refine pm_R_lo pm_M266 (pc' := 1) rfl rfl rfl ?_
        refine pm_R_lo pm_M266 (pc' := 2) rfl rfl rfl ?_
        refine pm_R_cv pm_M266 (pc' := 5) (a := 41) (ra := [.int x3]) (rest := []) (ls' := [.ref 41, .int x3, pm_no, pm_no, pm_no, pm_no]) rfl rfl (Or.inl rfl) pm_M254 rfl rfl (Nat.le_of_ble_eq_true rfl) (Nat.le_of_ble_eq_true rfl) rfl rfl (Nat.le_of_ble_eq_true rfl) rfl rfl ?_
        refine pm_R_lo pm_M254 (pc' := 1) rfl rfl rfl ?_
        refine pm_R_op pm_M254 (pc' := 2) (st' := [.int 2, .ref 41]) rfl rfl rfl ?_
        refine pm_R_lo pm_M254 (pc' := 3) rfl rfl rfl ?_
        refine pm_R_cv pm_M254 (pc' := 6) (a := 41) (ra := [.int x3, .int 2]) (rest := []) (ls' := [.ref 41, .int 2, .int x3]) rfl rfl (Or.inl rfl) pm_M177 rfl rfl (Nat.le_of_ble_eq_true rfl) (Nat.le_of_ble_eq_true rfl) rfl rfl (Nat.le_of_ble_eq_true rfl) rfl rfl ?_
        refine pm_R_lo pm_M177 (pc' := 1) rfl rfl rfl ?_
        refine pm_R_op pm_M177 (pc' := 2) (st' := [.int 0, .int x3]) rfl rfl rfl ?_
        refine pm_R_lo pm_M177 (pc' := 3) rfl rfl rfl ?_
        refine pm_R_get pm_M177 (pc' := 6) (v := .ref 46) rfl rfl rfl (Nat.le_of_ble_eq_true rfl) (Nat.le_of_ble_eq_true rfl) rfl rfl ?_
        refine pm_R_lo pm_M177 (pc' := 7) rfl rfl rfl ?_
        refine pm_R_iald pm_M177 (pc' := 8) (v := 0) rfl (hh 46 (Nat.le_of_ble_eq_true rfl)) (Nat.le_of_ble_eq_true rfl) rfl rfl rfl ?_
        refine pm_R_op pm_M177 (pc' := 9) (st' := [.int 1, .int 0, .int 0, .int x3]) rfl rfl rfl ?_
        refine pm_R_op pm_M177 (pc' := 10) (st' := [.int (-1), .int 0, .int x3]) rfl rfl rfl ?_
        refine pm_R_cs pm_M177 (pc' := 13) (ra := [.int (-1), .int 0, .int x3]) (rest := []) (ls' := [.int x3, .int 0, .int (-1)]) rfl rfl (Or.inl rfl) pm_M174 rfl rfl (Nat.le_of_ble_eq_true rfl) rfl rfl ?_
        refine pm_R_lo pm_M174 (pc' := 1) rfl rfl rfl ?_
        refine pm_R_lo pm_M174 (pc' := 2) rfl rfl rfl ?_
        refine pm_R_icmp pm_M174 (t := 14) (pc' := 5) rfl rfl rfl (fun c_12 => by exact absurd c_12 c_9) (fun c_12 => ?_)
        refine pm_R_lo pm_M174 (pc' := 6) rfl rfl rfl ?_
        refine pm_R_lo pm_M174 (pc' := 7) rfl rfl rfl ?_
        refine pm_R_icmp pm_M174 (t := 14) (pc' := 10) rfl rfl rfl (fun c_13 => ?_) (fun c_13 => by have z0 : ((-1) : Int32).toInt = -1 := (by decide); have z1 : ((0) : Int32).toInt = 0 := (by decide); have q0 := (Int32.le_iff_toInt_le.mp (Int32.not_lt.mp c_9)); have q1 := (Int32.le_iff_toInt_le.mp (Int32.not_lt.mp c_13)); exfalso; omega)
        refine pm_R_op pm_M174 (pc' := 15) (st' := [.int 0]) rfl rfl rfl ?_
        refine pm_R_ret pm_M174 (r := some (.int 0)) rfl rfl ?_
        show pm_R _ 177 13 [.ref 41, .int 2, .int x3] [.int 0] _ _
        refine pm_R_ret pm_M177 (r := some (.int 0)) rfl rfl ?_
        show pm_R _ 254 6 [.ref 41, .int x3, pm_no, pm_no, pm_no, pm_no] [.int 0] _ _
        refine pm_R_br pm_M254 (pc' := 9) (st' := []) rfl rfl ?_
        refine pm_R_op pm_M254 (pc' := 10) (st' := [.int 0]) rfl rfl rfl ?_
        refine pm_R_ret pm_M254 (r := some (.int 0)) rfl rfl ?_
        show pm_R _ 266 5 [.ref 41, .int x3, .int x4, .int x5, pm_no, pm_no, pm_no, pm_no, pm_no] [.int 0] _ _
        refine pm_R_br pm_M266 (pc' := 29) (st' := []) rfl rfl ?_
        refine pm_R_op pm_M266 (pc' := 30) (st' := [.int (-1)]) rfl rfl rfl ?_
        refine pm_R_ret pm_M266 (r := some (.int (-1))) rfl rfl ?_
        show pm_R _ 268 14 [.ref 41, .int x1, .int x2, .int x3, .int x4, .int x5, pm_no] [.int (-1)] _ _
        refine pm_R_lo pm_M268 (pc' := 16) (ls' := [.ref 41, .int x1, .int x2, .int x3, .int x4, .int x5, .int (-1)]) (st' := []) rfl rfl rfl ?_
        refine pm_R_lo pm_M268 (pc' := 18) rfl rfl rfl ?_
        refine pm_R_op pm_M268 (pc' := 19) (st' := [.int (-1), .int (-1)]) rfl rfl rfl ?_
        refine pm_R_br pm_M268 (pc' := 46) (st' := []) rfl rfl ?_
        refine pm_R_op pm_M268 (pc' := 47) (st' := [.int 0]) rfl rfl rfl ?_
        refine pm_R_ret pm_M268 (r := some (.int 0)) rfl rfl ?_
        show pm_R _ 0 1472 [.ref 0, .ref 16, .ref 41, .int 0] [.int 0, .int 0] _ _
        refine pm_R_br pm_M0 (pc' := 2121) (st' := []) (pm_q0_18 (Nat.le_of_ble_eq_true rfl)) rfl ?_
        exact p1_tail (hh 0 (Nat.le_of_ble_eq_true rfl)) (Nat.le_of_ble_eq_true rfl) (Nat.le_of_ble_eq_true rfl) (Nat.le_of_ble_eq_true rfl)
  · refine pm_R_lo pm_M62 (pc' := 5) rfl rfl rfl ?_
    refine pm_R_lo pm_M62 (pc' := 6) rfl rfl rfl ?_
    refine pm_R_get pm_M62 (pc' := 9) (v := .ref 17) rfl rfl (hh 16 (Nat.le_of_ble_eq_true rfl)) (Nat.le_of_ble_eq_true rfl) (Nat.le_of_ble_eq_true rfl) rfl rfl ?_
    refine pm_R_get pm_M62 (pc' := 12) (v := .ref 23) rfl rfl (hh 17 (Nat.le_of_ble_eq_true rfl)) (Nat.le_of_ble_eq_true rfl) (Nat.le_of_ble_eq_true rfl) rfl rfl ?_
    refine pm_R_op pm_M62 (pc' := 13) (st' := [.int 0, .ref 23, .int x1]) rfl rfl rfl ?_
    refine pm_R_iald pm_M62 (pc' := 14) (v := 0) rfl (hh 23 (Nat.le_of_ble_eq_true rfl)) (Nat.le_of_ble_eq_true rfl) rfl rfl rfl ?_
    refine pm_R_icmp pm_M62 (t := 21) (pc' := 17) rfl rfl rfl (fun c_14 => by exact absurd c_14 c_1) (fun c_14 => ?_)
    refine pm_R_op pm_M62 (pc' := 18) (st' := [.null]) rfl rfl rfl ?_
    refine pm_R_br pm_M62 (pc' := 30) rfl rfl ?_
    refine pm_R_ret pm_M62 (r := some (.null)) rfl rfl ?_
    show pm_R _ 155 5 [.ref 16, .int x1, .int x2, .int x3, .int x4, .int x5, pm_no, pm_no, pm_no, pm_no, pm_no] [.null] _ _
    refine pm_R_lo pm_M155 (pc' := 7) (ls' := [.ref 16, .int x1, .int x2, .int x3, .int x4, .int x5, .null, pm_no, pm_no, pm_no, pm_no]) (st' := []) rfl rfl rfl ?_
    refine pm_R_lo pm_M155 (pc' := 8) rfl rfl rfl ?_
    refine pm_R_lo pm_M155 (pc' := 9) rfl rfl rfl ?_
    refine pm_R_cv pm_M155 (pc' := 12) (a := 16) (ra := [.int x2]) (rest := []) (ls' := [.ref 16, .int x2]) rfl rfl (Or.inl rfl) pm_M66 (hh 16 (Nat.le_of_ble_eq_true rfl)) rfl (Nat.le_of_ble_eq_true rfl) (Nat.le_of_ble_eq_true rfl) rfl rfl (Nat.le_of_ble_eq_true rfl) rfl rfl ?_
    refine pm_R_lo pm_M66 (pc' := 1) rfl rfl rfl ?_
    refine pm_R_ifc pm_M66 (t := 17) (pc' := 4) rfl rfl rfl (fun c_15 => ?_) (fun c_15 => ?_)
    · refine pm_R_op pm_M66 (pc' := 18) (st' := [.null]) rfl rfl rfl ?_
      refine pm_R_br pm_M66 (pc' := 30) rfl rfl ?_
      refine pm_R_ret pm_M66 (r := some (.null)) rfl rfl ?_
      show pm_R _ 155 12 [.ref 16, .int x1, .int x2, .int x3, .int x4, .int x5, .null, pm_no, pm_no, pm_no, pm_no] [.null] _ _
      refine pm_R_lo pm_M155 (pc' := 14) (ls' := [.ref 16, .int x1, .int x2, .int x3, .int x4, .int x5, .null, .null, pm_no, pm_no, pm_no]) (st' := []) rfl rfl rfl ?_
      refine pm_R_lo pm_M155 (pc' := 15) rfl rfl rfl ?_
      refine pm_R_lo pm_M155 (pc' := 16) rfl rfl rfl ?_
      refine pm_R_lo pm_M155 (pc' := 18) rfl rfl rfl ?_
      refine pm_R_lo pm_M155 (pc' := 20) rfl rfl rfl ?_
      refine pm_R_cv pm_M155 (pc' := 23) (a := 16) (ra := [.int x5, .int x4, .int x3]) (rest := []) (ls' := [.ref 16, .int x3, .int x4, .int x5, pm_no]) rfl rfl (Or.inl rfl) pm_M152 (hh 16 (Nat.le_of_ble_eq_true rfl)) rfl (Nat.le_of_ble_eq_true rfl) (Nat.le_of_ble_eq_true rfl) rfl rfl (Nat.le_of_ble_eq_true rfl) rfl rfl ?_
      refine pm_R_lo pm_M152 (pc' := 1) rfl rfl rfl ?_
      refine pm_R_lo pm_M152 (pc' := 2) rfl rfl rfl ?_
      refine pm_R_cv pm_M152 (pc' := 5) (a := 16) (ra := [.int x3]) (rest := []) (ls' := [.ref 16, .int x3]) rfl rfl (Or.inl rfl) pm_M139 (hh 16 (Nat.le_of_ble_eq_true rfl)) rfl (Nat.le_of_ble_eq_true rfl) (Nat.le_of_ble_eq_true rfl) rfl rfl (Nat.le_of_ble_eq_true rfl) rfl rfl ?_
      refine pm_R_lo pm_M139 (pc' := 1) rfl rfl rfl ?_
      refine pm_R_ifc pm_M139 (t := 17) (pc' := 4) rfl rfl rfl (fun c_16 => ?_) (fun c_16 => ?_)
      · refine pm_R_op pm_M139 (pc' := 18) (st' := [.null]) rfl rfl rfl ?_
        refine pm_R_br pm_M139 (pc' := 30) rfl rfl ?_
        refine pm_R_ret pm_M139 (r := some (.null)) rfl rfl ?_
        show pm_R _ 152 5 [.ref 16, .int x3, .int x4, .int x5, pm_no] [.null] _ _
        refine pm_R_lo pm_M152 (pc' := 7) (ls' := [.ref 16, .int x3, .int x4, .int x5, .null]) (st' := []) rfl rfl rfl ?_
        refine pm_R_lo pm_M152 (pc' := 9) rfl rfl rfl ?_
        refine pm_R_br pm_M152 (pc' := 35) rfl rfl ?_
        refine pm_R_op pm_M152 (pc' := 36) (st' := [.int (-1)]) rfl rfl rfl ?_
        refine pm_R_ret pm_M152 (r := some (.int (-1))) rfl rfl ?_
        show pm_R _ 155 23 [.ref 16, .int x1, .int x2, .int x3, .int x4, .int x5, .null, .null, pm_no, pm_no, pm_no] [.int (-1)] _ _
        refine pm_R_lo pm_M155 (pc' := 25) (ls' := [.ref 16, .int x1, .int x2, .int x3, .int x4, .int x5, .null, .null, .int (-1), pm_no, pm_no]) (st' := []) rfl rfl rfl ?_
        refine pm_R_lo pm_M155 (pc' := 27) rfl rfl rfl ?_
        refine pm_R_br pm_M155 (pc' := 41) rfl rfl ?_
        refine pm_R_op pm_M155 (pc' := 42) (st' := [.int 0]) rfl rfl rfl ?_
        refine pm_R_ret pm_M155 (r := some (.int 0)) rfl rfl ?_
        show pm_R _ 0 1443 [.ref 0, .ref 16, .ref 41, .int 0] [.int 0] _ _
        refine pm_R_lo pm_M0 (pc' := 1444) (pm_q0_17 (Nat.le_of_ble_eq_true rfl)) rfl rfl ?_
        refine pm_R_lo pm_M0 (pc' := 1445) (pm_q0_17 (Nat.le_of_ble_eq_true rfl)) rfl rfl ?_
        refine pm_R_lo pm_M0 (pc' := 1446) (pm_q0_17 (Nat.le_of_ble_eq_true rfl)) rfl rfl ?_
        refine pm_R_op pm_M0 (pc' := 1447) (st' := [.int 1, .int 0, .ref 0, .ref 41, .int 0]) (pm_q0_17 (Nat.le_of_ble_eq_true rfl)) rfl rfl ?_
        refine pm_R_op pm_M0 (pc' := 1448) (st' := [.int 1, .ref 0, .ref 41, .int 0]) (pm_q0_17 (Nat.le_of_ble_eq_true rfl)) rfl rfl ?_
        refine pm_R_iald pm_M0 (pc' := 1449) (v := x1) (pm_q0_18 (Nat.le_of_ble_eq_true rfl)) (hh 0 (Nat.le_of_ble_eq_true rfl)) (Nat.le_of_ble_eq_true rfl) rfl hx1 rfl ?_
        refine pm_R_lo pm_M0 (pc' := 1450) (pm_q0_18 (Nat.le_of_ble_eq_true rfl)) rfl rfl ?_
        refine pm_R_lo pm_M0 (pc' := 1451) (pm_q0_18 (Nat.le_of_ble_eq_true rfl)) rfl rfl ?_
        refine pm_R_op pm_M0 (pc' := 1452) (st' := [.int 2, .int 0, .ref 0, .int x1, .ref 41, .int 0]) (pm_q0_18 (Nat.le_of_ble_eq_true rfl)) rfl rfl ?_
        refine pm_R_op pm_M0 (pc' := 1453) (st' := [.int 2, .ref 0, .int x1, .ref 41, .int 0]) (pm_q0_18 (Nat.le_of_ble_eq_true rfl)) rfl rfl ?_
        refine pm_R_iald pm_M0 (pc' := 1454) (v := x2) (pm_q0_18 (Nat.le_of_ble_eq_true rfl)) (hh 0 (Nat.le_of_ble_eq_true rfl)) (Nat.le_of_ble_eq_true rfl) rfl hx2 rfl ?_
        refine pm_R_lo pm_M0 (pc' := 1455) (pm_q0_18 (Nat.le_of_ble_eq_true rfl)) rfl rfl ?_
        refine pm_R_lo pm_M0 (pc' := 1456) (pm_q0_18 (Nat.le_of_ble_eq_true rfl)) rfl rfl ?_
        refine pm_R_op pm_M0 (pc' := 1457) (st' := [.int 3, .int 0, .ref 0, .int x2, .int x1, .ref 41, .int 0]) (pm_q0_18 (Nat.le_of_ble_eq_true rfl)) rfl rfl ?_
        refine pm_R_op pm_M0 (pc' := 1458) (st' := [.int 3, .ref 0, .int x2, .int x1, .ref 41, .int 0]) (pm_q0_18 (Nat.le_of_ble_eq_true rfl)) rfl rfl ?_
        refine pm_R_iald pm_M0 (pc' := 1459) (v := x3) (pm_q0_18 (Nat.le_of_ble_eq_true rfl)) (hh 0 (Nat.le_of_ble_eq_true rfl)) (Nat.le_of_ble_eq_true rfl) rfl hx3 rfl ?_
        refine pm_R_lo pm_M0 (pc' := 1460) (pm_q0_18 (Nat.le_of_ble_eq_true rfl)) rfl rfl ?_
        refine pm_R_lo pm_M0 (pc' := 1461) (pm_q0_18 (Nat.le_of_ble_eq_true rfl)) rfl rfl ?_
        refine pm_R_op pm_M0 (pc' := 1462) (st' := [.int 4, .int 0, .ref 0, .int x3, .int x2, .int x1, .ref 41, .int 0]) (pm_q0_18 (Nat.le_of_ble_eq_true rfl)) rfl rfl ?_
        refine pm_R_op pm_M0 (pc' := 1463) (st' := [.int 4, .ref 0, .int x3, .int x2, .int x1, .ref 41, .int 0]) (pm_q0_18 (Nat.le_of_ble_eq_true rfl)) rfl rfl ?_
        refine pm_R_iald pm_M0 (pc' := 1464) (v := x4) (pm_q0_18 (Nat.le_of_ble_eq_true rfl)) (hh 0 (Nat.le_of_ble_eq_true rfl)) (Nat.le_of_ble_eq_true rfl) rfl hx4 rfl ?_
        refine pm_R_lo pm_M0 (pc' := 1465) (pm_q0_18 (Nat.le_of_ble_eq_true rfl)) rfl rfl ?_
        refine pm_R_lo pm_M0 (pc' := 1466) (pm_q0_18 (Nat.le_of_ble_eq_true rfl)) rfl rfl ?_
        refine pm_R_op pm_M0 (pc' := 1467) (st' := [.int 5, .int 0, .ref 0, .int x4, .int x3, .int x2, .int x1, .ref 41, .int 0]) (pm_q0_18 (Nat.le_of_ble_eq_true rfl)) rfl rfl ?_
        refine pm_R_op pm_M0 (pc' := 1468) (st' := [.int 5, .ref 0, .int x4, .int x3, .int x2, .int x1, .ref 41, .int 0]) (pm_q0_18 (Nat.le_of_ble_eq_true rfl)) rfl rfl ?_
        refine pm_R_iald pm_M0 (pc' := 1469) (v := x5) (pm_q0_18 (Nat.le_of_ble_eq_true rfl)) (hh 0 (Nat.le_of_ble_eq_true rfl)) (Nat.le_of_ble_eq_true rfl) rfl hx5 rfl ?_
        refine pm_R_cv pm_M0 (pc' := 1472) (a := 41) (ra := [.int x5, .int x4, .int x3, .int x2, .int x1]) (rest := [.int 0]) (ls' := [.ref 41, .int x1, .int x2, .int x3, .int x4, .int x5, pm_no]) (pm_q0_18 (Nat.le_of_ble_eq_true rfl)) rfl (Or.inl rfl) pm_M268 (hh 41 (Nat.le_of_ble_eq_true rfl)) rfl (Nat.le_of_ble_eq_true rfl) (Nat.le_of_ble_eq_true rfl) rfl rfl (Nat.le_of_ble_eq_true rfl) rfl rfl ?_
        refine pm_R_lo pm_M268 (pc' := 1) rfl rfl rfl ?_
        refine pm_R_op pm_M268 (pc' := 2) (st' := [.int 0, .ref 41]) rfl rfl rfl ?_
        refine pm_R_put pm_M268 (pc' := 5) (fs' := [.int 0, .ref 42, .ref 43, .ref 44, .ref 45, .ref 46, .ref 47, .ref 48, .ref 49, .ref 50, .int 0, .int 0, .int 0, .int 0, .int 0, .long 0, .int 0, .int 0, .int 0, .ref 51, .ref 52, .int 0, .int 0, .int 0, .int 0, .ref 53, .int 0, .int 0, .ref 54, .ref 55, .ref 56, .int 0, .ref 57, .ref 58, .ref 59, .ref 60, .ref 61, .ref 62, .ref 63, .ref 64, .ref 65, .ref 66, .int 0, .int 0, .int 0, .ref 67, .ref 68, .int 0, .ref 69, .int 0, .int 0, .ref 70, .ref 71]) rfl rfl rfl (hh 41 (Nat.le_of_ble_eq_true rfl)) (Nat.le_of_ble_eq_true rfl) (Nat.le_of_ble_eq_true rfl) (Nat.le_of_ble_eq_true rfl) rfl (Or.inl rfl) rfl rfl ?_
        refine pm_R_lo pm_M268 (pc' := 6) rfl rfl rfl ?_
        refine pm_R_lo pm_M268 (pc' := 7) rfl rfl rfl ?_
        refine pm_R_lo pm_M268 (pc' := 9) rfl rfl rfl ?_
        refine pm_R_lo pm_M268 (pc' := 11) rfl rfl rfl ?_
        refine pm_R_cv pm_M268 (pc' := 14) (a := 41) (ra := [.int x5, .int x4, .int x3]) (rest := []) (ls' := [.ref 41, .int x3, .int x4, .int x5, pm_no, pm_no, pm_no, pm_no, pm_no]) rfl rfl (Or.inl rfl) pm_M266 rfl rfl (Nat.le_of_ble_eq_true rfl) (Nat.le_of_ble_eq_true rfl) rfl rfl (Nat.le_of_ble_eq_true rfl) rfl rfl ?_
        refine pm_R_lo pm_M266 (pc' := 1) rfl rfl rfl ?_
        refine pm_R_lo pm_M266 (pc' := 2) rfl rfl rfl ?_
        refine pm_R_cv pm_M266 (pc' := 5) (a := 41) (ra := [.int x3]) (rest := []) (ls' := [.ref 41, .int x3, pm_no, pm_no, pm_no, pm_no]) rfl rfl (Or.inl rfl) pm_M254 rfl rfl (Nat.le_of_ble_eq_true rfl) (Nat.le_of_ble_eq_true rfl) rfl rfl (Nat.le_of_ble_eq_true rfl) rfl rfl ?_
        refine pm_R_lo pm_M254 (pc' := 1) rfl rfl rfl ?_
        refine pm_R_op pm_M254 (pc' := 2) (st' := [.int 2, .ref 41]) rfl rfl rfl ?_
        refine pm_R_lo pm_M254 (pc' := 3) rfl rfl rfl ?_
        refine pm_R_cv pm_M254 (pc' := 6) (a := 41) (ra := [.int x3, .int 2]) (rest := []) (ls' := [.ref 41, .int 2, .int x3]) rfl rfl (Or.inl rfl) pm_M177 rfl rfl (Nat.le_of_ble_eq_true rfl) (Nat.le_of_ble_eq_true rfl) rfl rfl (Nat.le_of_ble_eq_true rfl) rfl rfl ?_
        refine pm_R_lo pm_M177 (pc' := 1) rfl rfl rfl ?_
        refine pm_R_op pm_M177 (pc' := 2) (st' := [.int 0, .int x3]) rfl rfl rfl ?_
        refine pm_R_lo pm_M177 (pc' := 3) rfl rfl rfl ?_
        refine pm_R_get pm_M177 (pc' := 6) (v := .ref 46) rfl rfl rfl (Nat.le_of_ble_eq_true rfl) (Nat.le_of_ble_eq_true rfl) rfl rfl ?_
        refine pm_R_lo pm_M177 (pc' := 7) rfl rfl rfl ?_
        refine pm_R_iald pm_M177 (pc' := 8) (v := 0) rfl (hh 46 (Nat.le_of_ble_eq_true rfl)) (Nat.le_of_ble_eq_true rfl) rfl rfl rfl ?_
        refine pm_R_op pm_M177 (pc' := 9) (st' := [.int 1, .int 0, .int 0, .int x3]) rfl rfl rfl ?_
        refine pm_R_op pm_M177 (pc' := 10) (st' := [.int (-1), .int 0, .int x3]) rfl rfl rfl ?_
        refine pm_R_cs pm_M177 (pc' := 13) (ra := [.int (-1), .int 0, .int x3]) (rest := []) (ls' := [.int x3, .int 0, .int (-1)]) rfl rfl (Or.inl rfl) pm_M174 rfl rfl (Nat.le_of_ble_eq_true rfl) rfl rfl ?_
        refine pm_R_lo pm_M174 (pc' := 1) rfl rfl rfl ?_
        refine pm_R_lo pm_M174 (pc' := 2) rfl rfl rfl ?_
        refine pm_R_icmp pm_M174 (t := 14) (pc' := 5) rfl rfl rfl (fun c_17 => ?_) (fun c_17 => by exact absurd c_16 c_17)
        refine pm_R_op pm_M174 (pc' := 15) (st' := [.int 0]) rfl rfl rfl ?_
        refine pm_R_ret pm_M174 (r := some (.int 0)) rfl rfl ?_
        show pm_R _ 177 13 [.ref 41, .int 2, .int x3] [.int 0] _ _
        refine pm_R_ret pm_M177 (r := some (.int 0)) rfl rfl ?_
        show pm_R _ 254 6 [.ref 41, .int x3, pm_no, pm_no, pm_no, pm_no] [.int 0] _ _
        refine pm_R_br pm_M254 (pc' := 9) (st' := []) rfl rfl ?_
        refine pm_R_op pm_M254 (pc' := 10) (st' := [.int 0]) rfl rfl rfl ?_
        refine pm_R_ret pm_M254 (r := some (.int 0)) rfl rfl ?_
        show pm_R _ 266 5 [.ref 41, .int x3, .int x4, .int x5, pm_no, pm_no, pm_no, pm_no, pm_no] [.int 0] _ _
        refine pm_R_br pm_M266 (pc' := 29) (st' := []) rfl rfl ?_
        refine pm_R_op pm_M266 (pc' := 30) (st' := [.int (-1)]) rfl rfl rfl ?_
        refine pm_R_ret pm_M266 (r := some (.int (-1))) rfl rfl ?_
        show pm_R _ 268 14 [.ref 41, .int x1, .int x2, .int x3, .int x4, .int x5, pm_no] [.int (-1)] _ _
        refine pm_R_lo pm_M268 (pc' := 16) (ls' := [.ref 41, .int x1, .int x2, .int x3, .int x4, .int x5, .int (-1)]) (st' := []) rfl rfl rfl ?_
        refine pm_R_lo pm_M268 (pc' := 18) rfl rfl rfl ?_
        refine pm_R_op pm_M268 (pc' := 19) (st' := [.int (-1), .int (-1)]) rfl rfl rfl ?_
        refine pm_R_br pm_M268 (pc' := 46) (st' := []) rfl rfl ?_
        refine pm_R_op pm_M268 (pc' := 47) (st' := [.int 0]) rfl rfl rfl ?_
        refine pm_R_ret pm_M268 (r := some (.int 0)) rfl rfl ?_
        show pm_R _ 0 1472 [.ref 0, .ref 16, .ref 41, .int 0] [.int 0, .int 0] _ _
        refine pm_R_br pm_M0 (pc' := 2121) (st' := []) (pm_q0_18 (Nat.le_of_ble_eq_true rfl)) rfl ?_
        exact p1_tail (hh 0 (Nat.le_of_ble_eq_true rfl)) (Nat.le_of_ble_eq_true rfl) (Nat.le_of_ble_eq_true rfl) (Nat.le_of_ble_eq_true rfl)
      · refine pm_R_lo pm_M139 (pc' := 5) rfl rfl rfl ?_
        refine pm_R_lo pm_M139 (pc' := 6) rfl rfl rfl ?_
        refine pm_R_get pm_M139 (pc' := 9) (v := .ref 17) rfl rfl (hh 16 (Nat.le_of_ble_eq_true rfl)) (Nat.le_of_ble_eq_true rfl) (Nat.le_of_ble_eq_true rfl) rfl rfl ?_
        refine pm_R_get pm_M139 (pc' := 12) (v := .ref 23) rfl rfl (hh 17 (Nat.le_of_ble_eq_true rfl)) (Nat.le_of_ble_eq_true rfl) (Nat.le_of_ble_eq_true rfl) rfl rfl ?_
        refine pm_R_op pm_M139 (pc' := 13) (st' := [.int 2, .ref 23, .int x3]) rfl rfl rfl ?_
        refine pm_R_iald pm_M139 (pc' := 14) (v := 0) rfl (hh 23 (Nat.le_of_ble_eq_true rfl)) (Nat.le_of_ble_eq_true rfl) rfl rfl rfl ?_
        refine pm_R_icmp pm_M139 (t := 21) (pc' := 17) rfl rfl rfl (fun c_18 => by exact absurd c_18 c_16) (fun c_18 => ?_)
        refine pm_R_op pm_M139 (pc' := 18) (st' := [.null]) rfl rfl rfl ?_
        refine pm_R_br pm_M139 (pc' := 30) rfl rfl ?_
        refine pm_R_ret pm_M139 (r := some (.null)) rfl rfl ?_
        show pm_R _ 152 5 [.ref 16, .int x3, .int x4, .int x5, pm_no] [.null] _ _
        refine pm_R_lo pm_M152 (pc' := 7) (ls' := [.ref 16, .int x3, .int x4, .int x5, .null]) (st' := []) rfl rfl rfl ?_
        refine pm_R_lo pm_M152 (pc' := 9) rfl rfl rfl ?_
        refine pm_R_br pm_M152 (pc' := 35) rfl rfl ?_
        refine pm_R_op pm_M152 (pc' := 36) (st' := [.int (-1)]) rfl rfl rfl ?_
        refine pm_R_ret pm_M152 (r := some (.int (-1))) rfl rfl ?_
        show pm_R _ 155 23 [.ref 16, .int x1, .int x2, .int x3, .int x4, .int x5, .null, .null, pm_no, pm_no, pm_no] [.int (-1)] _ _
        refine pm_R_lo pm_M155 (pc' := 25) (ls' := [.ref 16, .int x1, .int x2, .int x3, .int x4, .int x5, .null, .null, .int (-1), pm_no, pm_no]) (st' := []) rfl rfl rfl ?_
        refine pm_R_lo pm_M155 (pc' := 27) rfl rfl rfl ?_
        refine pm_R_br pm_M155 (pc' := 41) rfl rfl ?_
        refine pm_R_op pm_M155 (pc' := 42) (st' := [.int 0]) rfl rfl rfl ?_
        refine pm_R_ret pm_M155 (r := some (.int 0)) rfl rfl ?_
        show pm_R _ 0 1443 [.ref 0, .ref 16, .ref 41, .int 0] [.int 0] _ _
        refine pm_R_lo pm_M0 (pc' := 1444) (pm_q0_17 (Nat.le_of_ble_eq_true rfl)) rfl rfl ?_
        refine pm_R_lo pm_M0 (pc' := 1445) (pm_q0_17 (Nat.le_of_ble_eq_true rfl)) rfl rfl ?_
        refine pm_R_lo pm_M0 (pc' := 1446) (pm_q0_17 (Nat.le_of_ble_eq_true rfl)) rfl rfl ?_
        refine pm_R_op pm_M0 (pc' := 1447) (st' := [.int 1, .int 0, .ref 0, .ref 41, .int 0]) (pm_q0_17 (Nat.le_of_ble_eq_true rfl)) rfl rfl ?_
        refine pm_R_op pm_M0 (pc' := 1448) (st' := [.int 1, .ref 0, .ref 41, .int 0]) (pm_q0_17 (Nat.le_of_ble_eq_true rfl)) rfl rfl ?_
        refine pm_R_iald pm_M0 (pc' := 1449) (v := x1) (pm_q0_18 (Nat.le_of_ble_eq_true rfl)) (hh 0 (Nat.le_of_ble_eq_true rfl)) (Nat.le_of_ble_eq_true rfl) rfl hx1 rfl ?_
        refine pm_R_lo pm_M0 (pc' := 1450) (pm_q0_18 (Nat.le_of_ble_eq_true rfl)) rfl rfl ?_
        refine pm_R_lo pm_M0 (pc' := 1451) (pm_q0_18 (Nat.le_of_ble_eq_true rfl)) rfl rfl ?_
        refine pm_R_op pm_M0 (pc' := 1452) (st' := [.int 2, .int 0, .ref 0, .int x1, .ref 41, .int 0]) (pm_q0_18 (Nat.le_of_ble_eq_true rfl)) rfl rfl ?_
        refine pm_R_op pm_M0 (pc' := 1453) (st' := [.int 2, .ref 0, .int x1, .ref 41, .int 0]) (pm_q0_18 (Nat.le_of_ble_eq_true rfl)) rfl rfl ?_
        refine pm_R_iald pm_M0 (pc' := 1454) (v := x2) (pm_q0_18 (Nat.le_of_ble_eq_true rfl)) (hh 0 (Nat.le_of_ble_eq_true rfl)) (Nat.le_of_ble_eq_true rfl) rfl hx2 rfl ?_
        refine pm_R_lo pm_M0 (pc' := 1455) (pm_q0_18 (Nat.le_of_ble_eq_true rfl)) rfl rfl ?_
        refine pm_R_lo pm_M0 (pc' := 1456) (pm_q0_18 (Nat.le_of_ble_eq_true rfl)) rfl rfl ?_
        refine pm_R_op pm_M0 (pc' := 1457) (st' := [.int 3, .int 0, .ref 0, .int x2, .int x1, .ref 41, .int 0]) (pm_q0_18 (Nat.le_of_ble_eq_true rfl)) rfl rfl ?_
        refine pm_R_op pm_M0 (pc' := 1458) (st' := [.int 3, .ref 0, .int x2, .int x1, .ref 41, .int 0]) (pm_q0_18 (Nat.le_of_ble_eq_true rfl)) rfl rfl ?_
        refine pm_R_iald pm_M0 (pc' := 1459) (v := x3) (pm_q0_18 (Nat.le_of_ble_eq_true rfl)) (hh 0 (Nat.le_of_ble_eq_true rfl)) (Nat.le_of_ble_eq_true rfl) rfl hx3 rfl ?_
        refine pm_R_lo pm_M0 (pc' := 1460) (pm_q0_18 (Nat.le_of_ble_eq_true rfl)) rfl rfl ?_
        refine pm_R_lo pm_M0 (pc' := 1461) (pm_q0_18 (Nat.le_of_ble_eq_true rfl)) rfl rfl ?_
        refine pm_R_op pm_M0 (pc' := 1462) (st' := [.int 4, .int 0, .ref 0, .int x3, .int x2, .int x1, .ref 41, .int 0]) (pm_q0_18 (Nat.le_of_ble_eq_true rfl)) rfl rfl ?_
        refine pm_R_op pm_M0 (pc' := 1463) (st' := [.int 4, .ref 0, .int x3, .int x2, .int x1, .ref 41, .int 0]) (pm_q0_18 (Nat.le_of_ble_eq_true rfl)) rfl rfl ?_
        refine pm_R_iald pm_M0 (pc' := 1464) (v := x4) (pm_q0_18 (Nat.le_of_ble_eq_true rfl)) (hh 0 (Nat.le_of_ble_eq_true rfl)) (Nat.le_of_ble_eq_true rfl) rfl hx4 rfl ?_
        refine pm_R_lo pm_M0 (pc' := 1465) (pm_q0_18 (Nat.le_of_ble_eq_true rfl)) rfl rfl ?_
        refine pm_R_lo pm_M0 (pc' := 1466) (pm_q0_18 (Nat.le_of_ble_eq_true rfl)) rfl rfl ?_
        refine pm_R_op pm_M0 (pc' := 1467) (st' := [.int 5, .int 0, .ref 0, .int x4, .int x3, .int x2, .int x1, .ref 41, .int 0]) (pm_q0_18 (Nat.le_of_ble_eq_true rfl)) rfl rfl ?_
        refine pm_R_op pm_M0 (pc' := 1468) (st' := [.int 5, .ref 0, .int x4, .int x3, .int x2, .int x1, .ref 41, .int 0]) (pm_q0_18 (Nat.le_of_ble_eq_true rfl)) rfl rfl ?_
        refine pm_R_iald pm_M0 (pc' := 1469) (v := x5) (pm_q0_18 (Nat.le_of_ble_eq_true rfl)) (hh 0 (Nat.le_of_ble_eq_true rfl)) (Nat.le_of_ble_eq_true rfl) rfl hx5 rfl ?_
        refine pm_R_cv pm_M0 (pc' := 1472) (a := 41) (ra := [.int x5, .int x4, .int x3, .int x2, .int x1]) (rest := [.int 0]) (ls' := [.ref 41, .int x1, .int x2, .int x3, .int x4, .int x5, pm_no]) (pm_q0_18 (Nat.le_of_ble_eq_true rfl)) rfl (Or.inl rfl) pm_M268 (hh 41 (Nat.le_of_ble_eq_true rfl)) rfl (Nat.le_of_ble_eq_true rfl) (Nat.le_of_ble_eq_true rfl) rfl rfl (Nat.le_of_ble_eq_true rfl) rfl rfl ?_
        refine pm_R_lo pm_M268 (pc' := 1) rfl rfl rfl ?_
        refine pm_R_op pm_M268 (pc' := 2) (st' := [.int 0, .ref 41]) rfl rfl rfl ?_
        refine pm_R_put pm_M268 (pc' := 5) (fs' := [.int 0, .ref 42, .ref 43, .ref 44, .ref 45, .ref 46, .ref 47, .ref 48, .ref 49, .ref 50, .int 0, .int 0, .int 0, .int 0, .int 0, .long 0, .int 0, .int 0, .int 0, .ref 51, .ref 52, .int 0, .int 0, .int 0, .int 0, .ref 53, .int 0, .int 0, .ref 54, .ref 55, .ref 56, .int 0, .ref 57, .ref 58, .ref 59, .ref 60, .ref 61, .ref 62, .ref 63, .ref 64, .ref 65, .ref 66, .int 0, .int 0, .int 0, .ref 67, .ref 68, .int 0, .ref 69, .int 0, .int 0, .ref 70, .ref 71]) rfl rfl rfl (hh 41 (Nat.le_of_ble_eq_true rfl)) (Nat.le_of_ble_eq_true rfl) (Nat.le_of_ble_eq_true rfl) (Nat.le_of_ble_eq_true rfl) rfl (Or.inl rfl) rfl rfl ?_
        refine pm_R_lo pm_M268 (pc' := 6) rfl rfl rfl ?_
        refine pm_R_lo pm_M268 (pc' := 7) rfl rfl rfl ?_
        refine pm_R_lo pm_M268 (pc' := 9) rfl rfl rfl ?_
        refine pm_R_lo pm_M268 (pc' := 11) rfl rfl rfl ?_
        refine pm_R_cv pm_M268 (pc' := 14) (a := 41) (ra := [.int x5, .int x4, .int x3]) (rest := []) (ls' := [.ref 41, .int x3, .int x4, .int x5, pm_no, pm_no, pm_no, pm_no, pm_no]) rfl rfl (Or.inl rfl) pm_M266 rfl rfl (Nat.le_of_ble_eq_true rfl) (Nat.le_of_ble_eq_true rfl) rfl rfl (Nat.le_of_ble_eq_true rfl) rfl rfl ?_
        refine pm_R_lo pm_M266 (pc' := 1) rfl rfl rfl ?_
        refine pm_R_lo pm_M266 (pc' := 2) rfl rfl rfl ?_
        refine pm_R_cv pm_M266 (pc' := 5) (a := 41) (ra := [.int x3]) (rest := []) (ls' := [.ref 41, .int x3, pm_no, pm_no, pm_no, pm_no]) rfl rfl (Or.inl rfl) pm_M254 rfl rfl (Nat.le_of_ble_eq_true rfl) (Nat.le_of_ble_eq_true rfl) rfl rfl (Nat.le_of_ble_eq_true rfl) rfl rfl ?_
        refine pm_R_lo pm_M254 (pc' := 1) rfl rfl rfl ?_
        refine pm_R_op pm_M254 (pc' := 2) (st' := [.int 2, .ref 41]) rfl rfl rfl ?_
        refine pm_R_lo pm_M254 (pc' := 3) rfl rfl rfl ?_
        refine pm_R_cv pm_M254 (pc' := 6) (a := 41) (ra := [.int x3, .int 2]) (rest := []) (ls' := [.ref 41, .int 2, .int x3]) rfl rfl (Or.inl rfl) pm_M177 rfl rfl (Nat.le_of_ble_eq_true rfl) (Nat.le_of_ble_eq_true rfl) rfl rfl (Nat.le_of_ble_eq_true rfl) rfl rfl ?_
        refine pm_R_lo pm_M177 (pc' := 1) rfl rfl rfl ?_
        refine pm_R_op pm_M177 (pc' := 2) (st' := [.int 0, .int x3]) rfl rfl rfl ?_
        refine pm_R_lo pm_M177 (pc' := 3) rfl rfl rfl ?_
        refine pm_R_get pm_M177 (pc' := 6) (v := .ref 46) rfl rfl rfl (Nat.le_of_ble_eq_true rfl) (Nat.le_of_ble_eq_true rfl) rfl rfl ?_
        refine pm_R_lo pm_M177 (pc' := 7) rfl rfl rfl ?_
        refine pm_R_iald pm_M177 (pc' := 8) (v := 0) rfl (hh 46 (Nat.le_of_ble_eq_true rfl)) (Nat.le_of_ble_eq_true rfl) rfl rfl rfl ?_
        refine pm_R_op pm_M177 (pc' := 9) (st' := [.int 1, .int 0, .int 0, .int x3]) rfl rfl rfl ?_
        refine pm_R_op pm_M177 (pc' := 10) (st' := [.int (-1), .int 0, .int x3]) rfl rfl rfl ?_
        refine pm_R_cs pm_M177 (pc' := 13) (ra := [.int (-1), .int 0, .int x3]) (rest := []) (ls' := [.int x3, .int 0, .int (-1)]) rfl rfl (Or.inl rfl) pm_M174 rfl rfl (Nat.le_of_ble_eq_true rfl) rfl rfl ?_
        refine pm_R_lo pm_M174 (pc' := 1) rfl rfl rfl ?_
        refine pm_R_lo pm_M174 (pc' := 2) rfl rfl rfl ?_
        refine pm_R_icmp pm_M174 (t := 14) (pc' := 5) rfl rfl rfl (fun c_19 => by exact absurd c_19 c_16) (fun c_19 => ?_)
        refine pm_R_lo pm_M174 (pc' := 6) rfl rfl rfl ?_
        refine pm_R_lo pm_M174 (pc' := 7) rfl rfl rfl ?_
        refine pm_R_icmp pm_M174 (t := 14) (pc' := 10) rfl rfl rfl (fun c_20 => ?_) (fun c_20 => by have z0 : ((-1) : Int32).toInt = -1 := (by decide); have z1 : ((0) : Int32).toInt = 0 := (by decide); have q0 := (Int32.le_iff_toInt_le.mp (Int32.not_lt.mp c_16)); have q1 := (Int32.le_iff_toInt_le.mp (Int32.not_lt.mp c_20)); exfalso; omega)
        refine pm_R_op pm_M174 (pc' := 15) (st' := [.int 0]) rfl rfl rfl ?_
        refine pm_R_ret pm_M174 (r := some (.int 0)) rfl rfl ?_
        show pm_R _ 177 13 [.ref 41, .int 2, .int x3] [.int 0] _ _
        refine pm_R_ret pm_M177 (r := some (.int 0)) rfl rfl ?_
        show pm_R _ 254 6 [.ref 41, .int x3, pm_no, pm_no, pm_no, pm_no] [.int 0] _ _
        refine pm_R_br pm_M254 (pc' := 9) (st' := []) rfl rfl ?_
        refine pm_R_op pm_M254 (pc' := 10) (st' := [.int 0]) rfl rfl rfl ?_
        refine pm_R_ret pm_M254 (r := some (.int 0)) rfl rfl ?_
        show pm_R _ 266 5 [.ref 41, .int x3, .int x4, .int x5, pm_no, pm_no, pm_no, pm_no, pm_no] [.int 0] _ _
        refine pm_R_br pm_M266 (pc' := 29) (st' := []) rfl rfl ?_
        refine pm_R_op pm_M266 (pc' := 30) (st' := [.int (-1)]) rfl rfl rfl ?_
        refine pm_R_ret pm_M266 (r := some (.int (-1))) rfl rfl ?_
        show pm_R _ 268 14 [.ref 41, .int x1, .int x2, .int x3, .int x4, .int x5, pm_no] [.int (-1)] _ _
        refine pm_R_lo pm_M268 (pc' := 16) (ls' := [.ref 41, .int x1, .int x2, .int x3, .int x4, .int x5, .int (-1)]) (st' := []) rfl rfl rfl ?_
        refine pm_R_lo pm_M268 (pc' := 18) rfl rfl rfl ?_
        refine pm_R_op pm_M268 (pc' := 19) (st' := [.int (-1), .int (-1)]) rfl rfl rfl ?_
        refine pm_R_br pm_M268 (pc' := 46) (st' := []) rfl rfl ?_
        refine pm_R_op pm_M268 (pc' := 47) (st' := [.int 0]) rfl rfl rfl ?_
        refine pm_R_ret pm_M268 (r := some (.int 0)) rfl rfl ?_
        show pm_R _ 0 1472 [.ref 0, .ref 16, .ref 41, .int 0] [.int 0, .int 0] _ _
        refine pm_R_br pm_M0 (pc' := 2121) (st' := []) (pm_q0_18 (Nat.le_of_ble_eq_true rfl)) rfl ?_
        exact p1_tail (hh 0 (Nat.le_of_ble_eq_true rfl)) (Nat.le_of_ble_eq_true rfl) (Nat.le_of_ble_eq_true rfl) (Nat.le_of_ble_eq_true rfl)
    · refine pm_R_lo pm_M66 (pc' := 5) rfl rfl rfl ?_
      refine pm_R_lo pm_M66 (pc' := 6) rfl rfl rfl ?_
      refine pm_R_get pm_M66 (pc' := 9) (v := .ref 17) rfl rfl (hh 16 (Nat.le_of_ble_eq_true rfl)) (Nat.le_of_ble_eq_true rfl) (Nat.le_of_ble_eq_true rfl) rfl rfl ?_
      refine pm_R_get pm_M66 (pc' := 12) (v := .ref 23) rfl rfl (hh 17 (Nat.le_of_ble_eq_true rfl)) (Nat.le_of_ble_eq_true rfl) (Nat.le_of_ble_eq_true rfl) rfl rfl ?_
      refine pm_R_op pm_M66 (pc' := 13) (st' := [.int 1, .ref 23, .int x2]) rfl rfl rfl ?_
      refine pm_R_iald pm_M66 (pc' := 14) (v := 0) rfl (hh 23 (Nat.le_of_ble_eq_true rfl)) (Nat.le_of_ble_eq_true rfl) rfl rfl rfl ?_
      refine pm_R_icmp pm_M66 (t := 21) (pc' := 17) rfl rfl rfl (fun c_21 => by exact absurd c_21 c_15) (fun c_21 => ?_)
      refine pm_R_op pm_M66 (pc' := 18) (st' := [.null]) rfl rfl rfl ?_
      refine pm_R_br pm_M66 (pc' := 30) rfl rfl ?_
      refine pm_R_ret pm_M66 (r := some (.null)) rfl rfl ?_
      show pm_R _ 155 12 [.ref 16, .int x1, .int x2, .int x3, .int x4, .int x5, .null, pm_no, pm_no, pm_no, pm_no] [.null] _ _
      refine pm_R_lo pm_M155 (pc' := 14) (ls' := [.ref 16, .int x1, .int x2, .int x3, .int x4, .int x5, .null, .null, pm_no, pm_no, pm_no]) (st' := []) rfl rfl rfl ?_
      refine pm_R_lo pm_M155 (pc' := 15) rfl rfl rfl ?_
      refine pm_R_lo pm_M155 (pc' := 16) rfl rfl rfl ?_
      refine pm_R_lo pm_M155 (pc' := 18) rfl rfl rfl ?_
      refine pm_R_lo pm_M155 (pc' := 20) rfl rfl rfl ?_
      refine pm_R_cv pm_M155 (pc' := 23) (a := 16) (ra := [.int x5, .int x4, .int x3]) (rest := []) (ls' := [.ref 16, .int x3, .int x4, .int x5, pm_no]) rfl rfl (Or.inl rfl) pm_M152 (hh 16 (Nat.le_of_ble_eq_true rfl)) rfl (Nat.le_of_ble_eq_true rfl) (Nat.le_of_ble_eq_true rfl) rfl rfl (Nat.le_of_ble_eq_true rfl) rfl rfl ?_
      refine pm_R_lo pm_M152 (pc' := 1) rfl rfl rfl ?_
      refine pm_R_lo pm_M152 (pc' := 2) rfl rfl rfl ?_
      refine pm_R_cv pm_M152 (pc' := 5) (a := 16) (ra := [.int x3]) (rest := []) (ls' := [.ref 16, .int x3]) rfl rfl (Or.inl rfl) pm_M139 (hh 16 (Nat.le_of_ble_eq_true rfl)) rfl (Nat.le_of_ble_eq_true rfl) (Nat.le_of_ble_eq_true rfl) rfl rfl (Nat.le_of_ble_eq_true rfl) rfl rfl ?_
      refine pm_R_lo pm_M139 (pc' := 1) rfl rfl rfl ?_
      refine pm_R_ifc pm_M139 (t := 17) (pc' := 4) rfl rfl rfl (fun c_22 => ?_) (fun c_22 => ?_)
      · refine pm_R_op pm_M139 (pc' := 18) (st' := [.null]) rfl rfl rfl ?_
        refine pm_R_br pm_M139 (pc' := 30) rfl rfl ?_
        refine pm_R_ret pm_M139 (r := some (.null)) rfl rfl ?_
        show pm_R _ 152 5 [.ref 16, .int x3, .int x4, .int x5, pm_no] [.null] _ _
        refine pm_R_lo pm_M152 (pc' := 7) (ls' := [.ref 16, .int x3, .int x4, .int x5, .null]) (st' := []) rfl rfl rfl ?_
        refine pm_R_lo pm_M152 (pc' := 9) rfl rfl rfl ?_
        refine pm_R_br pm_M152 (pc' := 35) rfl rfl ?_
        refine pm_R_op pm_M152 (pc' := 36) (st' := [.int (-1)]) rfl rfl rfl ?_
        refine pm_R_ret pm_M152 (r := some (.int (-1))) rfl rfl ?_
        show pm_R _ 155 23 [.ref 16, .int x1, .int x2, .int x3, .int x4, .int x5, .null, .null, pm_no, pm_no, pm_no] [.int (-1)] _ _
        refine pm_R_lo pm_M155 (pc' := 25) (ls' := [.ref 16, .int x1, .int x2, .int x3, .int x4, .int x5, .null, .null, .int (-1), pm_no, pm_no]) (st' := []) rfl rfl rfl ?_
        refine pm_R_lo pm_M155 (pc' := 27) rfl rfl rfl ?_
        refine pm_R_br pm_M155 (pc' := 41) rfl rfl ?_
        refine pm_R_op pm_M155 (pc' := 42) (st' := [.int 0]) rfl rfl rfl ?_
        refine pm_R_ret pm_M155 (r := some (.int 0)) rfl rfl ?_
        show pm_R _ 0 1443 [.ref 0, .ref 16, .ref 41, .int 0] [.int 0] _ _
        refine pm_R_lo pm_M0 (pc' := 1444) (pm_q0_17 (Nat.le_of_ble_eq_true rfl)) rfl rfl ?_
        refine pm_R_lo pm_M0 (pc' := 1445) (pm_q0_17 (Nat.le_of_ble_eq_true rfl)) rfl rfl ?_
        refine pm_R_lo pm_M0 (pc' := 1446) (pm_q0_17 (Nat.le_of_ble_eq_true rfl)) rfl rfl ?_
        refine pm_R_op pm_M0 (pc' := 1447) (st' := [.int 1, .int 0, .ref 0, .ref 41, .int 0]) (pm_q0_17 (Nat.le_of_ble_eq_true rfl)) rfl rfl ?_
        refine pm_R_op pm_M0 (pc' := 1448) (st' := [.int 1, .ref 0, .ref 41, .int 0]) (pm_q0_17 (Nat.le_of_ble_eq_true rfl)) rfl rfl ?_
        refine pm_R_iald pm_M0 (pc' := 1449) (v := x1) (pm_q0_18 (Nat.le_of_ble_eq_true rfl)) (hh 0 (Nat.le_of_ble_eq_true rfl)) (Nat.le_of_ble_eq_true rfl) rfl hx1 rfl ?_
        refine pm_R_lo pm_M0 (pc' := 1450) (pm_q0_18 (Nat.le_of_ble_eq_true rfl)) rfl rfl ?_
        refine pm_R_lo pm_M0 (pc' := 1451) (pm_q0_18 (Nat.le_of_ble_eq_true rfl)) rfl rfl ?_
        refine pm_R_op pm_M0 (pc' := 1452) (st' := [.int 2, .int 0, .ref 0, .int x1, .ref 41, .int 0]) (pm_q0_18 (Nat.le_of_ble_eq_true rfl)) rfl rfl ?_
        refine pm_R_op pm_M0 (pc' := 1453) (st' := [.int 2, .ref 0, .int x1, .ref 41, .int 0]) (pm_q0_18 (Nat.le_of_ble_eq_true rfl)) rfl rfl ?_
        refine pm_R_iald pm_M0 (pc' := 1454) (v := x2) (pm_q0_18 (Nat.le_of_ble_eq_true rfl)) (hh 0 (Nat.le_of_ble_eq_true rfl)) (Nat.le_of_ble_eq_true rfl) rfl hx2 rfl ?_
        refine pm_R_lo pm_M0 (pc' := 1455) (pm_q0_18 (Nat.le_of_ble_eq_true rfl)) rfl rfl ?_
        refine pm_R_lo pm_M0 (pc' := 1456) (pm_q0_18 (Nat.le_of_ble_eq_true rfl)) rfl rfl ?_
        refine pm_R_op pm_M0 (pc' := 1457) (st' := [.int 3, .int 0, .ref 0, .int x2, .int x1, .ref 41, .int 0]) (pm_q0_18 (Nat.le_of_ble_eq_true rfl)) rfl rfl ?_
        refine pm_R_op pm_M0 (pc' := 1458) (st' := [.int 3, .ref 0, .int x2, .int x1, .ref 41, .int 0]) (pm_q0_18 (Nat.le_of_ble_eq_true rfl)) rfl rfl ?_
        refine pm_R_iald pm_M0 (pc' := 1459) (v := x3) (pm_q0_18 (Nat.le_of_ble_eq_true rfl)) (hh 0 (Nat.le_of_ble_eq_true rfl)) (Nat.le_of_ble_eq_true rfl) rfl hx3 rfl ?_
        refine pm_R_lo pm_M0 (pc' := 1460) (pm_q0_18 (Nat.le_of_ble_eq_true rfl)) rfl rfl ?_
        refine pm_R_lo pm_M0 (pc' := 1461) (pm_q0_18 (Nat.le_of_ble_eq_true rfl)) rfl rfl ?_
        refine pm_R_op pm_M0 (pc' := 1462) (st' := [.int 4, .int 0, .ref 0, .int x3, .int x2, .int x1, .ref 41, .int 0]) (pm_q0_18 (Nat.le_of_ble_eq_true rfl)) rfl rfl ?_
        refine pm_R_op pm_M0 (pc' := 1463) (st' := [.int 4, .ref 0, .int x3, .int x2, .int x1, .ref 41, .int 0]) (pm_q0_18 (Nat.le_of_ble_eq_true rfl)) rfl rfl ?_
        refine pm_R_iald pm_M0 (pc' := 1464) (v := x4) (pm_q0_18 (Nat.le_of_ble_eq_true rfl)) (hh 0 (Nat.le_of_ble_eq_true rfl)) (Nat.le_of_ble_eq_true rfl) rfl hx4 rfl ?_
        refine pm_R_lo pm_M0 (pc' := 1465) (pm_q0_18 (Nat.le_of_ble_eq_true rfl)) rfl rfl ?_
        refine pm_R_lo pm_M0 (pc' := 1466) (pm_q0_18 (Nat.le_of_ble_eq_true rfl)) rfl rfl ?_
        refine pm_R_op pm_M0 (pc' := 1467) (st' := [.int 5, .int 0, .ref 0, .int x4, .int x3, .int x2, .int x1, .ref 41, .int 0]) (pm_q0_18 (Nat.le_of_ble_eq_true rfl)) rfl rfl ?_
        refine pm_R_op pm_M0 (pc' := 1468) (st' := [.int 5, .ref 0, .int x4, .int x3, .int x2, .int x1, .ref 41, .int 0]) (pm_q0_18 (Nat.le_of_ble_eq_true rfl)) rfl rfl ?_
        refine pm_R_iald pm_M0 (pc' := 1469) (v := x5) (pm_q0_18 (Nat.le_of_ble_eq_true rfl)) (hh 0 (Nat.le_of_ble_eq_true rfl)) (Nat.le_of_ble_eq_true rfl) rfl hx5 rfl ?_
        refine pm_R_cv pm_M0 (pc' := 1472) (a := 41) (ra := [.int x5, .int x4, .int x3, .int x2, .int x1]) (rest := [.int 0]) (ls' := [.ref 41, .int x1, .int x2, .int x3, .int x4, .int x5, pm_no]) (pm_q0_18 (Nat.le_of_ble_eq_true rfl)) rfl (Or.inl rfl) pm_M268 (hh 41 (Nat.le_of_ble_eq_true rfl)) rfl (Nat.le_of_ble_eq_true rfl) (Nat.le_of_ble_eq_true rfl) rfl rfl (Nat.le_of_ble_eq_true rfl) rfl rfl ?_
        refine pm_R_lo pm_M268 (pc' := 1) rfl rfl rfl ?_
        refine pm_R_op pm_M268 (pc' := 2) (st' := [.int 0, .ref 41]) rfl rfl rfl ?_
        refine pm_R_put pm_M268 (pc' := 5) (fs' := [.int 0, .ref 42, .ref 43, .ref 44, .ref 45, .ref 46, .ref 47, .ref 48, .ref 49, .ref 50, .int 0, .int 0, .int 0, .int 0, .int 0, .long 0, .int 0, .int 0, .int 0, .ref 51, .ref 52, .int 0, .int 0, .int 0, .int 0, .ref 53, .int 0, .int 0, .ref 54, .ref 55, .ref 56, .int 0, .ref 57, .ref 58, .ref 59, .ref 60, .ref 61, .ref 62, .ref 63, .ref 64, .ref 65, .ref 66, .int 0, .int 0, .int 0, .ref 67, .ref 68, .int 0, .ref 69, .int 0, .int 0, .ref 70, .ref 71]) rfl rfl rfl (hh 41 (Nat.le_of_ble_eq_true rfl)) (Nat.le_of_ble_eq_true rfl) (Nat.le_of_ble_eq_true rfl) (Nat.le_of_ble_eq_true rfl) rfl (Or.inl rfl) rfl rfl ?_
        refine pm_R_lo pm_M268 (pc' := 6) rfl rfl rfl ?_
        refine pm_R_lo pm_M268 (pc' := 7) rfl rfl rfl ?_
        refine pm_R_lo pm_M268 (pc' := 9) rfl rfl rfl ?_
        refine pm_R_lo pm_M268 (pc' := 11) rfl rfl rfl ?_
        refine pm_R_cv pm_M268 (pc' := 14) (a := 41) (ra := [.int x5, .int x4, .int x3]) (rest := []) (ls' := [.ref 41, .int x3, .int x4, .int x5, pm_no, pm_no, pm_no, pm_no, pm_no]) rfl rfl (Or.inl rfl) pm_M266 rfl rfl (Nat.le_of_ble_eq_true rfl) (Nat.le_of_ble_eq_true rfl) rfl rfl (Nat.le_of_ble_eq_true rfl) rfl rfl ?_
        refine pm_R_lo pm_M266 (pc' := 1) rfl rfl rfl ?_
        refine pm_R_lo pm_M266 (pc' := 2) rfl rfl rfl ?_
        refine pm_R_cv pm_M266 (pc' := 5) (a := 41) (ra := [.int x3]) (rest := []) (ls' := [.ref 41, .int x3, pm_no, pm_no, pm_no, pm_no]) rfl rfl (Or.inl rfl) pm_M254 rfl rfl (Nat.le_of_ble_eq_true rfl) (Nat.le_of_ble_eq_true rfl) rfl rfl (Nat.le_of_ble_eq_true rfl) rfl rfl ?_
        refine pm_R_lo pm_M254 (pc' := 1) rfl rfl rfl ?_
        refine pm_R_op pm_M254 (pc' := 2) (st' := [.int 2, .ref 41]) rfl rfl rfl ?_
        refine pm_R_lo pm_M254 (pc' := 3) rfl rfl rfl ?_
        refine pm_R_cv pm_M254 (pc' := 6) (a := 41) (ra := [.int x3, .int 2]) (rest := []) (ls' := [.ref 41, .int 2, .int x3]) rfl rfl (Or.inl rfl) pm_M177 rfl rfl (Nat.le_of_ble_eq_true rfl) (Nat.le_of_ble_eq_true rfl) rfl rfl (Nat.le_of_ble_eq_true rfl) rfl rfl ?_
        refine pm_R_lo pm_M177 (pc' := 1) rfl rfl rfl ?_
        refine pm_R_op pm_M177 (pc' := 2) (st' := [.int 0, .int x3]) rfl rfl rfl ?_
        refine pm_R_lo pm_M177 (pc' := 3) rfl rfl rfl ?_
        refine pm_R_get pm_M177 (pc' := 6) (v := .ref 46) rfl rfl rfl (Nat.le_of_ble_eq_true rfl) (Nat.le_of_ble_eq_true rfl) rfl rfl ?_
        refine pm_R_lo pm_M177 (pc' := 7) rfl rfl rfl ?_
        refine pm_R_iald pm_M177 (pc' := 8) (v := 0) rfl (hh 46 (Nat.le_of_ble_eq_true rfl)) (Nat.le_of_ble_eq_true rfl) rfl rfl rfl ?_
        refine pm_R_op pm_M177 (pc' := 9) (st' := [.int 1, .int 0, .int 0, .int x3]) rfl rfl rfl ?_
        refine pm_R_op pm_M177 (pc' := 10) (st' := [.int (-1), .int 0, .int x3]) rfl rfl rfl ?_
        refine pm_R_cs pm_M177 (pc' := 13) (ra := [.int (-1), .int 0, .int x3]) (rest := []) (ls' := [.int x3, .int 0, .int (-1)]) rfl rfl (Or.inl rfl) pm_M174 rfl rfl (Nat.le_of_ble_eq_true rfl) rfl rfl ?_
        refine pm_R_lo pm_M174 (pc' := 1) rfl rfl rfl ?_
        refine pm_R_lo pm_M174 (pc' := 2) rfl rfl rfl ?_
        refine pm_R_icmp pm_M174 (t := 14) (pc' := 5) rfl rfl rfl (fun c_23 => ?_) (fun c_23 => by exact absurd c_22 c_23)
        refine pm_R_op pm_M174 (pc' := 15) (st' := [.int 0]) rfl rfl rfl ?_
        refine pm_R_ret pm_M174 (r := some (.int 0)) rfl rfl ?_
        show pm_R _ 177 13 [.ref 41, .int 2, .int x3] [.int 0] _ _
        refine pm_R_ret pm_M177 (r := some (.int 0)) rfl rfl ?_
        show pm_R _ 254 6 [.ref 41, .int x3, pm_no, pm_no, pm_no, pm_no] [.int 0] _ _
        refine pm_R_br pm_M254 (pc' := 9) (st' := []) rfl rfl ?_
        refine pm_R_op pm_M254 (pc' := 10) (st' := [.int 0]) rfl rfl rfl ?_
        refine pm_R_ret pm_M254 (r := some (.int 0)) rfl rfl ?_
        show pm_R _ 266 5 [.ref 41, .int x3, .int x4, .int x5, pm_no, pm_no, pm_no, pm_no, pm_no] [.int 0] _ _
        refine pm_R_br pm_M266 (pc' := 29) (st' := []) rfl rfl ?_
        refine pm_R_op pm_M266 (pc' := 30) (st' := [.int (-1)]) rfl rfl rfl ?_
        refine pm_R_ret pm_M266 (r := some (.int (-1))) rfl rfl ?_
        show pm_R _ 268 14 [.ref 41, .int x1, .int x2, .int x3, .int x4, .int x5, pm_no] [.int (-1)] _ _
        refine pm_R_lo pm_M268 (pc' := 16) (ls' := [.ref 41, .int x1, .int x2, .int x3, .int x4, .int x5, .int (-1)]) (st' := []) rfl rfl rfl ?_
        refine pm_R_lo pm_M268 (pc' := 18) rfl rfl rfl ?_
        refine pm_R_op pm_M268 (pc' := 19) (st' := [.int (-1), .int (-1)]) rfl rfl rfl ?_
        refine pm_R_br pm_M268 (pc' := 46) (st' := []) rfl rfl ?_
        refine pm_R_op pm_M268 (pc' := 47) (st' := [.int 0]) rfl rfl rfl ?_
        refine pm_R_ret pm_M268 (r := some (.int 0)) rfl rfl ?_
        show pm_R _ 0 1472 [.ref 0, .ref 16, .ref 41, .int 0] [.int 0, .int 0] _ _
        refine pm_R_br pm_M0 (pc' := 2121) (st' := []) (pm_q0_18 (Nat.le_of_ble_eq_true rfl)) rfl ?_
        exact p1_tail (hh 0 (Nat.le_of_ble_eq_true rfl)) (Nat.le_of_ble_eq_true rfl) (Nat.le_of_ble_eq_true rfl) (Nat.le_of_ble_eq_true rfl)
      · refine pm_R_lo pm_M139 (pc' := 5) rfl rfl rfl ?_
        refine pm_R_lo pm_M139 (pc' := 6) rfl rfl rfl ?_
        refine pm_R_get pm_M139 (pc' := 9) (v := .ref 17) rfl rfl (hh 16 (Nat.le_of_ble_eq_true rfl)) (Nat.le_of_ble_eq_true rfl) (Nat.le_of_ble_eq_true rfl) rfl rfl ?_
        refine pm_R_get pm_M139 (pc' := 12) (v := .ref 23) rfl rfl (hh 17 (Nat.le_of_ble_eq_true rfl)) (Nat.le_of_ble_eq_true rfl) (Nat.le_of_ble_eq_true rfl) rfl rfl ?_
        refine pm_R_op pm_M139 (pc' := 13) (st' := [.int 2, .ref 23, .int x3]) rfl rfl rfl ?_
        refine pm_R_iald pm_M139 (pc' := 14) (v := 0) rfl (hh 23 (Nat.le_of_ble_eq_true rfl)) (Nat.le_of_ble_eq_true rfl) rfl rfl rfl ?_
        refine pm_R_icmp pm_M139 (t := 21) (pc' := 17) rfl rfl rfl (fun c_24 => by exact absurd c_24 c_22) (fun c_24 => ?_)
        refine pm_R_op pm_M139 (pc' := 18) (st' := [.null]) rfl rfl rfl ?_
        refine pm_R_br pm_M139 (pc' := 30) rfl rfl ?_
        refine pm_R_ret pm_M139 (r := some (.null)) rfl rfl ?_
        show pm_R _ 152 5 [.ref 16, .int x3, .int x4, .int x5, pm_no] [.null] _ _
        refine pm_R_lo pm_M152 (pc' := 7) (ls' := [.ref 16, .int x3, .int x4, .int x5, .null]) (st' := []) rfl rfl rfl ?_
        refine pm_R_lo pm_M152 (pc' := 9) rfl rfl rfl ?_
        refine pm_R_br pm_M152 (pc' := 35) rfl rfl ?_
        refine pm_R_op pm_M152 (pc' := 36) (st' := [.int (-1)]) rfl rfl rfl ?_
        refine pm_R_ret pm_M152 (r := some (.int (-1))) rfl rfl ?_
        show pm_R _ 155 23 [.ref 16, .int x1, .int x2, .int x3, .int x4, .int x5, .null, .null, pm_no, pm_no, pm_no] [.int (-1)] _ _
        refine pm_R_lo pm_M155 (pc' := 25) (ls' := [.ref 16, .int x1, .int x2, .int x3, .int x4, .int x5, .null, .null, .int (-1), pm_no, pm_no]) (st' := []) rfl rfl rfl ?_
        refine pm_R_lo pm_M155 (pc' := 27) rfl rfl rfl ?_
        refine pm_R_br pm_M155 (pc' := 41) rfl rfl ?_
        refine pm_R_op pm_M155 (pc' := 42) (st' := [.int 0]) rfl rfl rfl ?_
        refine pm_R_ret pm_M155 (r := some (.int 0)) rfl rfl ?_
        show pm_R _ 0 1443 [.ref 0, .ref 16, .ref 41, .int 0] [.int 0] _ _
        refine pm_R_lo pm_M0 (pc' := 1444) (pm_q0_17 (Nat.le_of_ble_eq_true rfl)) rfl rfl ?_
        refine pm_R_lo pm_M0 (pc' := 1445) (pm_q0_17 (Nat.le_of_ble_eq_true rfl)) rfl rfl ?_
        refine pm_R_lo pm_M0 (pc' := 1446) (pm_q0_17 (Nat.le_of_ble_eq_true rfl)) rfl rfl ?_
        refine pm_R_op pm_M0 (pc' := 1447) (st' := [.int 1, .int 0, .ref 0, .ref 41, .int 0]) (pm_q0_17 (Nat.le_of_ble_eq_true rfl)) rfl rfl ?_
        refine pm_R_op pm_M0 (pc' := 1448) (st' := [.int 1, .ref 0, .ref 41, .int 0]) (pm_q0_17 (Nat.le_of_ble_eq_true rfl)) rfl rfl ?_
        refine pm_R_iald pm_M0 (pc' := 1449) (v := x1) (pm_q0_18 (Nat.le_of_ble_eq_true rfl)) (hh 0 (Nat.le_of_ble_eq_true rfl)) (Nat.le_of_ble_eq_true rfl) rfl hx1 rfl ?_
        refine pm_R_lo pm_M0 (pc' := 1450) (pm_q0_18 (Nat.le_of_ble_eq_true rfl)) rfl rfl ?_
        refine pm_R_lo pm_M0 (pc' := 1451) (pm_q0_18 (Nat.le_of_ble_eq_true rfl)) rfl rfl ?_
        refine pm_R_op pm_M0 (pc' := 1452) (st' := [.int 2, .int 0, .ref 0, .int x1, .ref 41, .int 0]) (pm_q0_18 (Nat.le_of_ble_eq_true rfl)) rfl rfl ?_
        refine pm_R_op pm_M0 (pc' := 1453) (st' := [.int 2, .ref 0, .int x1, .ref 41, .int 0]) (pm_q0_18 (Nat.le_of_ble_eq_true rfl)) rfl rfl ?_
        refine pm_R_iald pm_M0 (pc' := 1454) (v := x2) (pm_q0_18 (Nat.le_of_ble_eq_true rfl)) (hh 0 (Nat.le_of_ble_eq_true rfl)) (Nat.le_of_ble_eq_true rfl) rfl hx2 rfl ?_
        refine pm_R_lo pm_M0 (pc' := 1455) (pm_q0_18 (Nat.le_of_ble_eq_true rfl)) rfl rfl ?_
        refine pm_R_lo pm_M0 (pc' := 1456) (pm_q0_18 (Nat.le_of_ble_eq_true rfl)) rfl rfl ?_
        refine pm_R_op pm_M0 (pc' := 1457) (st' := [.int 3, .int 0, .ref 0, .int x2, .int x1, .ref 41, .int 0]) (pm_q0_18 (Nat.le_of_ble_eq_true rfl)) rfl rfl ?_
        refine pm_R_op pm_M0 (pc' := 1458) (st' := [.int 3, .ref 0, .int x2, .int x1, .ref 41, .int 0]) (pm_q0_18 (Nat.le_of_ble_eq_true rfl)) rfl rfl ?_
        refine pm_R_iald pm_M0 (pc' := 1459) (v := x3) (pm_q0_18 (Nat.le_of_ble_eq_true rfl)) (hh 0 (Nat.le_of_ble_eq_true rfl)) (Nat.le_of_ble_eq_true rfl) rfl hx3 rfl ?_
        refine pm_R_lo pm_M0 (pc' := 1460) (pm_q0_18 (Nat.le_of_ble_eq_true rfl)) rfl rfl ?_
        refine pm_R_lo pm_M0 (pc' := 1461) (pm_q0_18 (Nat.le_of_ble_eq_true rfl)) rfl rfl ?_
        refine pm_R_op pm_M0 (pc' := 1462) (st' := [.int 4, .int 0, .ref 0, .int x3, .int x2, .int x1, .ref 41, .int 0]) (pm_q0_18 (Nat.le_of_ble_eq_true rfl)) rfl rfl ?_
        refine pm_R_op pm_M0 (pc' := 1463) (st' := [.int 4, .ref 0, .int x3, .int x2, .int x1, .ref 41, .int 0]) (pm_q0_18 (Nat.le_of_ble_eq_true rfl)) rfl rfl ?_
        refine pm_R_iald pm_M0 (pc' := 1464) (v := x4) (pm_q0_18 (Nat.le_of_ble_eq_true rfl)) (hh 0 (Nat.le_of_ble_eq_true rfl)) (Nat.le_of_ble_eq_true rfl) rfl hx4 rfl ?_
        refine pm_R_lo pm_M0 (pc' := 1465) (pm_q0_18 (Nat.le_of_ble_eq_true rfl)) rfl rfl ?_
        refine pm_R_lo pm_M0 (pc' := 1466) (pm_q0_18 (Nat.le_of_ble_eq_true rfl)) rfl rfl ?_
        refine pm_R_op pm_M0 (pc' := 1467) (st' := [.int 5, .int 0, .ref 0, .int x4, .int x3, .int x2, .int x1, .ref 41, .int 0]) (pm_q0_18 (Nat.le_of_ble_eq_true rfl)) rfl rfl ?_
        refine pm_R_op pm_M0 (pc' := 1468) (st' := [.int 5, .ref 0, .int x4, .int x3, .int x2, .int x1, .ref 41, .int 0]) (pm_q0_18 (Nat.le_of_ble_eq_true rfl)) rfl rfl ?_
        refine pm_R_iald pm_M0 (pc' := 1469) (v := x5) (pm_q0_18 (Nat.le_of_ble_eq_true rfl)) (hh 0 (Nat.le_of_ble_eq_true rfl)) (Nat.le_of_ble_eq_true rfl) rfl hx5 rfl ?_
        refine pm_R_cv pm_M0 (pc' := 1472) (a := 41) (ra := [.int x5, .int x4, .int x3, .int x2, .int x1]) (rest := [.int 0]) (ls' := [.ref 41, .int x1, .int x2, .int x3, .int x4, .int x5, pm_no]) (pm_q0_18 (Nat.le_of_ble_eq_true rfl)) rfl (Or.inl rfl) pm_M268 (hh 41 (Nat.le_of_ble_eq_true rfl)) rfl (Nat.le_of_ble_eq_true rfl) (Nat.le_of_ble_eq_true rfl) rfl rfl (Nat.le_of_ble_eq_true rfl) rfl rfl ?_
        refine pm_R_lo pm_M268 (pc' := 1) rfl rfl rfl ?_
        refine pm_R_op pm_M268 (pc' := 2) (st' := [.int 0, .ref 41]) rfl rfl rfl ?_
        refine pm_R_put pm_M268 (pc' := 5) (fs' := [.int 0, .ref 42, .ref 43, .ref 44, .ref 45, .ref 46, .ref 47, .ref 48, .ref 49, .ref 50, .int 0, .int 0, .int 0, .int 0, .int 0, .long 0, .int 0, .int 0, .int 0, .ref 51, .ref 52, .int 0, .int 0, .int 0, .int 0, .ref 53, .int 0, .int 0, .ref 54, .ref 55, .ref 56, .int 0, .ref 57, .ref 58, .ref 59, .ref 60, .ref 61, .ref 62, .ref 63, .ref 64, .ref 65, .ref 66, .int 0, .int 0, .int 0, .ref 67, .ref 68, .int 0, .ref 69, .int 0, .int 0, .ref 70, .ref 71]) rfl rfl rfl (hh 41 (Nat.le_of_ble_eq_true rfl)) (Nat.le_of_ble_eq_true rfl) (Nat.le_of_ble_eq_true rfl) (Nat.le_of_ble_eq_true rfl) rfl (Or.inl rfl) rfl rfl ?_
        refine pm_R_lo pm_M268 (pc' := 6) rfl rfl rfl ?_
        refine pm_R_lo pm_M268 (pc' := 7) rfl rfl rfl ?_
        refine pm_R_lo pm_M268 (pc' := 9) rfl rfl rfl ?_
        refine pm_R_lo pm_M268 (pc' := 11) rfl rfl rfl ?_
        refine pm_R_cv pm_M268 (pc' := 14) (a := 41) (ra := [.int x5, .int x4, .int x3]) (rest := []) (ls' := [.ref 41, .int x3, .int x4, .int x5, pm_no, pm_no, pm_no, pm_no, pm_no]) rfl rfl (Or.inl rfl) pm_M266 rfl rfl (Nat.le_of_ble_eq_true rfl) (Nat.le_of_ble_eq_true rfl) rfl rfl (Nat.le_of_ble_eq_true rfl) rfl rfl ?_
        refine pm_R_lo pm_M266 (pc' := 1) rfl rfl rfl ?_
        refine pm_R_lo pm_M266 (pc' := 2) rfl rfl rfl ?_
        refine pm_R_cv pm_M266 (pc' := 5) (a := 41) (ra := [.int x3]) (rest := []) (ls' := [.ref 41, .int x3, pm_no, pm_no, pm_no, pm_no]) rfl rfl (Or.inl rfl) pm_M254 rfl rfl (Nat.le_of_ble_eq_true rfl) (Nat.le_of_ble_eq_true rfl) rfl rfl (Nat.le_of_ble_eq_true rfl) rfl rfl ?_
        refine pm_R_lo pm_M254 (pc' := 1) rfl rfl rfl ?_
        refine pm_R_op pm_M254 (pc' := 2) (st' := [.int 2, .ref 41]) rfl rfl rfl ?_
        refine pm_R_lo pm_M254 (pc' := 3) rfl rfl rfl ?_
        refine pm_R_cv pm_M254 (pc' := 6) (a := 41) (ra := [.int x3, .int 2]) (rest := []) (ls' := [.ref 41, .int 2, .int x3]) rfl rfl (Or.inl rfl) pm_M177 rfl rfl (Nat.le_of_ble_eq_true rfl) (Nat.le_of_ble_eq_true rfl) rfl rfl (Nat.le_of_ble_eq_true rfl) rfl rfl ?_
        refine pm_R_lo pm_M177 (pc' := 1) rfl rfl rfl ?_
        refine pm_R_op pm_M177 (pc' := 2) (st' := [.int 0, .int x3]) rfl rfl rfl ?_
        refine pm_R_lo pm_M177 (pc' := 3) rfl rfl rfl ?_
        refine pm_R_get pm_M177 (pc' := 6) (v := .ref 46) rfl rfl rfl (Nat.le_of_ble_eq_true rfl) (Nat.le_of_ble_eq_true rfl) rfl rfl ?_
        refine pm_R_lo pm_M177 (pc' := 7) rfl rfl rfl ?_
        refine pm_R_iald pm_M177 (pc' := 8) (v := 0) rfl (hh 46 (Nat.le_of_ble_eq_true rfl)) (Nat.le_of_ble_eq_true rfl) rfl rfl rfl ?_
        refine pm_R_op pm_M177 (pc' := 9) (st' := [.int 1, .int 0, .int 0, .int x3]) rfl rfl rfl ?_
        refine pm_R_op pm_M177 (pc' := 10) (st' := [.int (-1), .int 0, .int x3]) rfl rfl rfl ?_
        refine pm_R_cs pm_M177 (pc' := 13) (ra := [.int (-1), .int 0, .int x3]) (rest := []) (ls' := [.int x3, .int 0, .int (-1)]) rfl rfl (Or.inl rfl) pm_M174 rfl rfl (Nat.le_of_ble_eq_true rfl) rfl rfl ?_
        refine pm_R_lo pm_M174 (pc' := 1) rfl rfl rfl ?_
        refine pm_R_lo pm_M174 (pc' := 2) rfl rfl rfl ?_
        refine pm_R_icmp pm_M174 (t := 14) (pc' := 5) rfl rfl rfl (fun c_25 => by exact absurd c_25 c_22) (fun c_25 => ?_)
        refine pm_R_lo pm_M174 (pc' := 6) rfl rfl rfl ?_
        refine pm_R_lo pm_M174 (pc' := 7) rfl rfl rfl ?_
        refine pm_R_icmp pm_M174 (t := 14) (pc' := 10) rfl rfl rfl (fun c_26 => ?_) (fun c_26 => by have z0 : ((-1) : Int32).toInt = -1 := (by decide); have z1 : ((0) : Int32).toInt = 0 := (by decide); have q0 := (Int32.le_iff_toInt_le.mp (Int32.not_lt.mp c_22)); have q1 := (Int32.le_iff_toInt_le.mp (Int32.not_lt.mp c_26)); exfalso; omega)
        refine pm_R_op pm_M174 (pc' := 15) (st' := [.int 0]) rfl rfl rfl ?_
        refine pm_R_ret pm_M174 (r := some (.int 0)) rfl rfl ?_
        show pm_R _ 177 13 [.ref 41, .int 2, .int x3] [.int 0] _ _
        refine pm_R_ret pm_M177 (r := some (.int 0)) rfl rfl ?_
        show pm_R _ 254 6 [.ref 41, .int x3, pm_no, pm_no, pm_no, pm_no] [.int 0] _ _
        refine pm_R_br pm_M254 (pc' := 9) (st' := []) rfl rfl ?_
        refine pm_R_op pm_M254 (pc' := 10) (st' := [.int 0]) rfl rfl rfl ?_
        refine pm_R_ret pm_M254 (r := some (.int 0)) rfl rfl ?_
        show pm_R _ 266 5 [.ref 41, .int x3, .int x4, .int x5, pm_no, pm_no, pm_no, pm_no, pm_no] [.int 0] _ _
        refine pm_R_br pm_M266 (pc' := 29) (st' := []) rfl rfl ?_
        refine pm_R_op pm_M266 (pc' := 30) (st' := [.int (-1)]) rfl rfl rfl ?_
        refine pm_R_ret pm_M266 (r := some (.int (-1))) rfl rfl ?_
        show pm_R _ 268 14 [.ref 41, .int x1, .int x2, .int x3, .int x4, .int x5, pm_no] [.int (-1)] _ _
        refine pm_R_lo pm_M268 (pc' := 16) (ls' := [.ref 41, .int x1, .int x2, .int x3, .int x4, .int x5, .int (-1)]) (st' := []) rfl rfl rfl ?_
        refine pm_R_lo pm_M268 (pc' := 18) rfl rfl rfl ?_
        refine pm_R_op pm_M268 (pc' := 19) (st' := [.int (-1), .int (-1)]) rfl rfl rfl ?_
        refine pm_R_br pm_M268 (pc' := 46) (st' := []) rfl rfl ?_
        refine pm_R_op pm_M268 (pc' := 47) (st' := [.int 0]) rfl rfl rfl ?_
        refine pm_R_ret pm_M268 (r := some (.int 0)) rfl rfl ?_
        show pm_R _ 0 1472 [.ref 0, .ref 16, .ref 41, .int 0] [.int 0, .int 0] _ _
        refine pm_R_br pm_M0 (pc' := 2121) (st' := []) (pm_q0_18 (Nat.le_of_ble_eq_true rfl)) rfl ?_
        exact p1_tail (hh 0 (Nat.le_of_ble_eq_true rfl)) (Nat.le_of_ble_eq_true rfl) (Nat.le_of_ble_eq_true rfl) (Nat.le_of_ble_eq_true rfl)
