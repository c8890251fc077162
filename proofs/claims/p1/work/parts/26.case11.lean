set_option maxRecDepth 100000 in
set_option maxHeartbeats 40000000 in
theorem p1_c35 (xs : Nat → Int32) (f : Nat → pm_E) (hh : ∀ i, i < 72 → f i = pm_fF 7 xs i) (x0 x1 x2 x3 x4 x5 x6 : Int32) (hx0 : xs 0 = x0) (hx1 : xs 1 = x1) (hx2 : xs 2 = x2) (hx3 : xs 3 = x3) (hx4 : xs 4 = x4) (hx5 : xs 5 = x5) (hx6 : xs 6 = x6) : pm_R 100 0 1805 [.ref 0, .ref 16, .ref 41, .int 0] [] (72, 52657, f) p1_Q := by
  refine pm_R_lo pm_M0 (pc' := 1806) (pm_q0_23 (Nat.le_of_ble_eq_true rfl)) rfl rfl ?_
  refine pm_R_lo pm_M0 (pc' := 1807) (pm_q0_23 (Nat.le_of_ble_eq_true rfl)) rfl rfl ?_
  refine pm_R_lo pm_M0 (pc' := 1808) (pm_q0_23 (Nat.le_of_ble_eq_true rfl)) rfl rfl ?_
  refine pm_R_op pm_M0 (pc' := 1809) (st' := [.int 1, .int 0, .ref 0, .ref 16]) (pm_q0_23 (Nat.le_of_ble_eq_true rfl)) rfl rfl ?_
  refine pm_R_op pm_M0 (pc' := 1810) (st' := [.int 1, .ref 0, .ref 16]) (pm_q0_23 (Nat.le_of_ble_eq_true rfl)) rfl rfl ?_
  refine pm_R_iald pm_M0 (pc' := 1811) (v := x1) (pm_q0_23 (Nat.le_of_ble_eq_true rfl)) (hh 0 (Nat.le_of_ble_eq_true rfl)) (Nat.le_of_ble_eq_true rfl) rfl hx1 rfl ?_
  refine pm_R_lo pm_M0 (pc' := 1812) (pm_q0_23 (Nat.le_of_ble_eq_true rfl)) rfl rfl ?_
  refine pm_R_lo pm_M0 (pc' := 1813) (pm_q0_23 (Nat.le_of_ble_eq_true rfl)) rfl rfl ?_
  refine pm_R_op pm_M0 (pc' := 1814) (st' := [.int 2, .int 0, .ref 0, .int x1, .ref 16]) (pm_q0_23 (Nat.le_of_ble_eq_true rfl)) rfl rfl ?_
  refine pm_R_op pm_M0 (pc' := 1815) (st' := [.int 2, .ref 0, .int x1, .ref 16]) (pm_q0_23 (Nat.le_of_ble_eq_true rfl)) rfl rfl ?_
  refine pm_R_iald pm_M0 (pc' := 1816) (v := x2) (pm_q0_23 (Nat.le_of_ble_eq_true rfl)) (hh 0 (Nat.le_of_ble_eq_true rfl)) (Nat.le_of_ble_eq_true rfl) rfl hx2 rfl ?_
  refine pm_R_lo pm_M0 (pc' := 1817) (pm_q0_23 (Nat.le_of_ble_eq_true rfl)) rfl rfl ?_
  refine pm_R_lo pm_M0 (pc' := 1818) (pm_q0_23 (Nat.le_of_ble_eq_true rfl)) rfl rfl ?_
  refine pm_R_op pm_M0 (pc' := 1819) (st' := [.int 3, .int 0, .ref 0, .int x2, .int x1, .ref 16]) (pm_q0_23 (Nat.le_of_ble_eq_true rfl)) rfl rfl ?_
  refine pm_R_op pm_M0 (pc' := 1820) (st' := [.int 3, .ref 0, .int x2, .int x1, .ref 16]) (pm_q0_23 (Nat.le_of_ble_eq_true rfl)) rfl rfl ?_
  refine pm_R_iald pm_M0 (pc' := 1821) (v := x3) (pm_q0_23 (Nat.le_of_ble_eq_true rfl)) (hh 0 (Nat.le_of_ble_eq_true rfl)) (Nat.le_of_ble_eq_true rfl) rfl hx3 rfl ?_
  refine pm_R_cv pm_M0 (pc' := 1824) (a := 16) (ra := [.int x3, .int x2, .int x1]) (rest := []) (ls' := [.ref 16, .int x1, .int x2, .int x3, pm_no, pm_no, pm_no, pm_no, pm_no, pm_no]) (pm_q0_23 (Nat.le_of_ble_eq_true rfl)) rfl (Or.inl rfl) pm_M118 (hh 16 (Nat.le_of_ble_eq_true rfl)) rfl (Nat.le_of_ble_eq_true rfl) (Nat.le_of_ble_eq_true rfl) rfl rfl (Nat.le_of_ble_eq_true rfl) rfl rfl ?_
  refine pm_R_lo pm_M118 (pc' := 1) rfl rfl rfl ?_
  refine pm_R_lo pm_M118 (pc' := 2) rfl rfl rfl ?_
  refine pm_R_cv pm_M118 (pc' := 5) (a := 16) (ra := [.int x1]) (rest := []) (ls' := [.ref 16, .int x1]) rfl rfl (Or.inl rfl) pm_M62 (hh 16 (Nat.le_of_ble_eq_true rfl)) rfl (Nat.le_of_ble_eq_true rfl) (Nat.le_of_ble_eq_true rfl) rfl rfl (Nat.le_of_ble_eq_true rfl) rfl rfl ?_
  refine pm_R_lo pm_M62 (pc' := 1) rfl rfl rfl ?_
  refine pm_R_ifc pm_M62 (t := 17) (pc' := 4) rfl rfl rfl (fun c_1 => ?_) (fun c_1 => ?_)
  · refine pm_R_op pm_M62 (pc' := 18) (st' := [.null]) rfl rfl rfl ?_
    refine pm_R_br pm_M62 (pc' := 30) rfl rfl ?_
    refine pm_R_ret pm_M62 (r := some (.null)) rfl rfl ?_
    show pm_R _ 118 5 [.ref 16, .int x1, .int x2, .int x3, pm_no, pm_no, pm_no, pm_no, pm_no, pm_no] [.null] _ _
    refine pm_R_lo pm_M118 (pc' := 7) (ls' := [.ref 16, .int x1, .int x2, .int x3, .null, pm_no, pm_no, pm_no, pm_no, pm_no]) (st' := []) rfl rfl rfl ?_
    refine pm_R_lo pm_M118 (pc' := 8) rfl rfl rfl ?_
    refine pm_R_lo pm_M118 (pc' := 9) rfl rfl rfl ?_
    refine pm_R_cv pm_M118 (pc' := 12) (a := 16) (ra := [.int x2]) (rest := []) (ls' := [.ref 16, .int x2]) rfl rfl (Or.inl rfl) pm_M66 (hh 16 (Nat.le_of_ble_eq_true rfl)) rfl (Nat.le_of_ble_eq_true rfl) (Nat.le_of_ble_eq_true rfl) rfl rfl (Nat.le_of_ble_eq_true rfl) rfl rfl ?_
    refine pm_R_lo pm_M66 (pc' := 1) rfl rfl rfl ?_
    refine pm_R_ifc pm_M66 (t := 17) (pc' := 4) rfl rfl rfl (fun c_2 => ?_) (fun c_2 => ?_)
    · refine pm_R_op pm_M66 (pc' := 18) (st' := [.null]) rfl rfl rfl ?_
      refine pm_R_br pm_M66 (pc' := 30) rfl rfl ?_
      refine pm_R_ret pm_M66 (r := some (.null)) rfl rfl ?_
      show pm_R _ 118 12 [.ref 16, .int x1, .int x2, .int x3, .null, pm_no, pm_no, pm_no, pm_no, pm_no] [.null] _ _
      refine pm_R_lo pm_M118 (pc' := 14) (ls' := [.ref 16, .int x1, .int x2, .int x3, .null, .null, pm_no, pm_no, pm_no, pm_no]) (st' := []) rfl rfl rfl ?_
      refine pm_R_lo pm_M118 (pc' := 15) rfl rfl rfl ?_
      refine pm_R_lo pm_M118 (pc' := 16) rfl rfl rfl ?_
      refine pm_R_cv pm_M118 (pc' := 19) (a := 16) (ra := [.int x3]) (rest := []) (ls' := [.ref 16, .int x3]) rfl rfl (Or.inl rfl) pm_M66 (hh 16 (Nat.le_of_ble_eq_true rfl)) rfl (Nat.le_of_ble_eq_true rfl) (Nat.le_of_ble_eq_true rfl) rfl rfl (Nat.le_of_ble_eq_true rfl) rfl rfl ?_
      refine pm_R_lo pm_M66 (pc' := 1) rfl rfl rfl ?_
      refine pm_R_ifc pm_M66 (t := 17) (pc' := 4) rfl rfl rfl (fun c_3 => ?_) (fun c_3 => ?_)
      · refine pm_R_op pm_M66 (pc' := 18) (st' := [.null]) rfl rfl rfl ?_
        refine pm_R_br pm_M66 (pc' := 30) rfl rfl ?_
        refine pm_R_ret pm_M66 (r := some (.null)) rfl rfl ?_
        show pm_R _ 118 19 [.ref 16, .int x1, .int x2, .int x3, .null, .null, pm_no, pm_no, pm_no, pm_no] [.null] _ _
        refine pm_R_lo pm_M118 (pc' := 21) (ls' := [.ref 16, .int x1, .int x2, .int x3, .null, .null, .null, pm_no, pm_no, pm_no]) (st' := []) rfl rfl rfl ?_
        refine pm_R_lo pm_M118 (pc' := 23) rfl rfl rfl ?_
        refine pm_R_br pm_M118 (pc' := 49) rfl rfl ?_
        refine pm_R_op pm_M118 (pc' := 50) (st' := [.int (-1)]) rfl rfl rfl ?_
        refine pm_R_ret pm_M118 (r := some (.int (-1))) rfl rfl ?_
        show pm_R _ 0 1824 [.ref 0, .ref 16, .ref 41, .int 0] [.int (-1)] _ _
        refine pm_R_lo pm_M0 (pc' := 1825) (pm_q0_23 (Nat.le_of_ble_eq_true rfl)) rfl rfl ?_
        refine pm_R_lo pm_M0 (pc' := 1826) (pm_q0_23 (Nat.le_of_ble_eq_true rfl)) rfl rfl ?_
        refine pm_R_lo pm_M0 (pc' := 1827) (pm_q0_23 (Nat.le_of_ble_eq_true rfl)) rfl rfl ?_
        refine pm_R_op pm_M0 (pc' := 1828) (st' := [.int 1, .int 0, .ref 0, .ref 41, .int (-1)]) (pm_q0_23 (Nat.le_of_ble_eq_true rfl)) rfl rfl ?_
        refine pm_R_op pm_M0 (pc' := 1829) (st' := [.int 1, .ref 0, .ref 41, .int (-1)]) (pm_q0_23 (Nat.le_of_ble_eq_true rfl)) rfl rfl ?_
        refine pm_R_iald pm_M0 (pc' := 1830) (v := x1) (pm_q0_23 (Nat.le_of_ble_eq_true rfl)) (hh 0 (Nat.le_of_ble_eq_true rfl)) (Nat.le_of_ble_eq_true rfl) rfl hx1 rfl ?_
        refine pm_R_lo pm_M0 (pc' := 1831) (pm_q0_23 (Nat.le_of_ble_eq_true rfl)) rfl rfl ?_
        refine pm_R_lo pm_M0 (pc' := 1832) (pm_q0_23 (Nat.le_of_ble_eq_true rfl)) rfl rfl ?_
        refine pm_R_op pm_M0 (pc' := 1833) (st' := [.int 2, .int 0, .ref 0, .int x1, .ref 41, .int (-1)]) (pm_q0_23 (Nat.le_of_ble_eq_true rfl)) rfl rfl ?_
        refine pm_R_op pm_M0 (pc' := 1834) (st' := [.int 2, .ref 0, .int x1, .ref 41, .int (-1)]) (pm_q0_23 (Nat.le_of_ble_eq_true rfl)) rfl rfl ?_
        refine pm_R_iald pm_M0 (pc' := 1835) (v := x2) (pm_q0_23 (Nat.le_of_ble_eq_true rfl)) (hh 0 (Nat.le_of_ble_eq_true rfl)) (Nat.le_of_ble_eq_true rfl) rfl hx2 rfl ?_
        refine pm_R_lo pm_M0 (pc' := 1836) (pm_q0_23 (Nat.le_of_ble_eq_true rfl)) rfl rfl ?_
        refine pm_R_lo pm_M0 (pc' := 1837) (pm_q0_23 (Nat.le_of_ble_eq_true rfl)) rfl rfl ?_
        refine pm_R_op pm_M0 (pc' := 1838) (st' := [.int 3, .int 0, .ref 0, .int x2, .int x1, .ref 41, .int (-1)]) (pm_q0_23 (Nat.le_of_ble_eq_true rfl)) rfl rfl ?_
        refine pm_R_op pm_M0 (pc' := 1839) (st' := [.int 3, .ref 0, .int x2, .int x1, .ref 41, .int (-1)]) (pm_q0_23 (Nat.le_of_ble_eq_true rfl)) rfl rfl ?_
        refine pm_R_iald pm_M0 (pc' := 1840) (v := x3) (pm_q0_23 (Nat.le_of_ble_eq_true rfl)) (hh 0 (Nat.le_of_ble_eq_true rfl)) (Nat.le_of_ble_eq_true rfl) rfl hx3 rfl ?_
        refine pm_R_cv pm_M0 (pc' := 1843) (a := 41) (ra := [.int x3, .int x2, .int x1]) (rest := [.int (-1)]) (ls' := [.ref 41, .int x1, .int x2, .int x3, pm_no, pm_no, pm_no]) (pm_q0_23 (Nat.le_of_ble_eq_true rfl)) rfl (Or.inl rfl) pm_M288 (hh 41 (Nat.le_of_ble_eq_true rfl)) rfl (Nat.le_of_ble_eq_true rfl) (Nat.le_of_ble_eq_true rfl) rfl rfl (Nat.le_of_ble_eq_true rfl) rfl rfl ?_
        refine pm_R_lo pm_M288 (pc' := 1) rfl rfl rfl ?_
        refine pm_R_op pm_M288 (pc' := 2) (st' := [.int 0, .ref 41]) rfl rfl rfl ?_
        refine pm_R_put pm_M288 (pc' := 5) (fs' := [.int 0, .ref 42, .ref 43, .ref 44, .ref 45, .ref 46, .ref 47, .ref 48, .ref 49, .ref 50, .int 0, .int 0, .int 0, .int 0, .int 0, .long 0, .int 0, .int 0, .int 0, .ref 51, .ref 52, .int 0, .int 0, .int 0, .int 0, .ref 53, .int 0, .int 0, .ref 54, .ref 55, .ref 56, .int 0, .ref 57, .ref 58, .ref 59, .ref 60, .ref 61, .ref 62, .ref 63, .ref 64, .ref 65, .ref 66, .int 0, .int 0, .int 0, .ref 67, .ref 68, .int 0, .ref 69, .int 0, .int 0, .ref 70, .ref 71]) rfl rfl rfl (hh 41 (Nat.le_of_ble_eq_true rfl)) (Nat.le_of_ble_eq_true rfl) (Nat.le_of_ble_eq_true rfl) (Nat.le_of_ble_eq_true rfl) rfl (Or.inl rfl) rfl rfl ?_
        refine pm_R_lo pm_M288 (pc' := 6) rfl rfl rfl ?_
        refine pm_R_op pm_M288 (pc' := 7) (st' := [.int 1, .ref 41]) rfl rfl rfl ?_
        refine pm_R_lo pm_M288 (pc' := 8) rfl rfl rfl ?_
        refine pm_R_cv pm_M288 (pc' := 11) (a := 41) (ra := [.int x3, .int 1]) (rest := []) (ls' := [.ref 41, .int 1, .int x3]) rfl rfl (Or.inl rfl) pm_M177 rfl rfl (Nat.le_of_ble_eq_true rfl) (Nat.le_of_ble_eq_true rfl) rfl rfl (Nat.le_of_ble_eq_true rfl) rfl rfl ?_
        refine pm_R_lo pm_M177 (pc' := 1) rfl rfl rfl ?_
        refine pm_R_op pm_M177 (pc' := 2) (st' := [.int 0, .int x3]) rfl rfl rfl ?_
        refine pm_R_lo pm_M177 (pc' := 3) rfl rfl rfl ?_
        refine pm_R_get pm_M177 (pc' := 6) (v := .ref 46) rfl rfl rfl (Nat.le_of_ble_eq_true rfl) (Nat.le_of_ble_eq_true rfl) rfl rfl ?_
        refine pm_R_lo pm_M177 (pc' := 7) rfl rfl rfl ?_
        refine pm_R_iald pm_M177 (pc' := 8) (v := 0) rfl (hh 46 (Nat.le_of_ble_eq_true rfl)) (Nat.le_of_ble_eq_true rfl) rfl rfl rfl ?_
        refine pm_R_op pm_M177 (pc' := 9) (st' := [.int 1, .int 0, .int 0, .int x3]) rfl rfl rfl ?_
        refine pm_R_op pm_M177 (pc' := 10) (st' := [.int (-1), .int 0, .int x3]) rfl rfl rfl ?_
        refine pm_R_cs pm_M177 (pc' := 13) (ra := [.int (-1), .int 0, .int x3]) (rest := []) (ls' := [.int x3, .int 0, .int (-1)]) rfl rfl (Or.inl rfl) pm_M174 rfl rfl (Nat.le_of_ble_eq_true rfl) rfl rfl ?_
        refine pm_R_lo pm_M174 (pc' := 1) rfl rfl rfl ?_
        refine pm_R_lo pm_M174 (pc' := 2) rfl rfl rfl ?_
        refine pm_R_icmp pm_M174 (t := 14) (pc' := 5) rfl rfl rfl (fun c_4 => ?_) (fun c_4 => by exact absurd c_3 c_4)
        refine pm_R_op pm_M174 (pc' := 15) (st' := [.int 0]) rfl rfl rfl ?_
        refine pm_R_ret pm_M174 (r := some (.int 0)) rfl rfl ?_
        show pm_R _ 177 13 [.ref 41, .int 1, .int x3] [.int 0] _ _
        refine pm_R_ret pm_M177 (r := some (.int 0)) rfl rfl ?_
        show pm_R _ 288 11 [.ref 41, .int x1, .int x2, .int x3, pm_no, pm_no, pm_no] [.int 0] _ _
        refine pm_R_br pm_M288 (pc' := 39) (st' := []) rfl rfl ?_
        refine pm_R_op pm_M288 (pc' := 40) (st' := [.int (-1)]) rfl rfl rfl ?_
        refine pm_R_ret pm_M288 (r := some (.int (-1))) rfl rfl ?_
        show pm_R _ 0 1843 [.ref 0, .ref 16, .ref 41, .int 0] [.int (-1), .int (-1)] _ _
        refine pm_R_br pm_M0 (pc' := 2121) (st' := []) (pm_q0_23 (Nat.le_of_ble_eq_true rfl)) rfl ?_
        exact p1_tail (hh 0 (Nat.le_of_ble_eq_true rfl)) (Nat.le_of_ble_eq_true rfl) (Nat.le_of_ble_eq_true rfl) (Nat.le_of_ble_eq_true rfl)
      · refine pm_R_lo pm_M66 (pc' := 5) rfl rfl rfl ?_
        refine pm_R_lo pm_M66 (pc' := 6) rfl rfl rfl ?_
        refine pm_R_get pm_M66 (pc' := 9) (v := .ref 17) rfl rfl (hh 16 (Nat.le_of_ble_eq_true rfl)) (Nat.le_of_ble_eq_true rfl) (Nat.le_of_ble_eq_true rfl) rfl rfl ?_
        refine pm_R_get pm_M66 (pc' := 12) (v := .ref 23) rfl rfl (hh 17 (Nat.le_of_ble_eq_true rfl)) (Nat.le_of_ble_eq_true rfl) (Nat.le_of_ble_eq_true rfl) rfl rfl ?_
        refine pm_R_op pm_M66 (pc' := 13) (st' := [.int 1, .ref 23, .int x3]) rfl rfl rfl ?_
        refine pm_R_iald pm_M66 (pc' := 14) (v := 0) rfl (hh 23 (Nat.le_of_ble_eq_true rfl)) (Nat.le_of_ble_eq_true rfl) rfl rfl rfl ?_
        refine pm_R_icmp pm_M66 (t := 21) (pc' := 17) rfl rfl rfl (fun c_5 => by exact absurd c_5 c_3) (fun c_5 => ?_)
        refine pm_R_op pm_M66 (pc' := 18) (st' := [.null]) rfl rfl rfl ?_
        refine pm_R_br pm_M66 (pc' := 30) rfl rfl ?_
        refine pm_R_ret pm_M66 (r := some (.null)) rfl rfl ?_
        show pm_R _ 118 19 [.ref 16, .int x1, .int x2, .int x3, .null, .null, pm_no, pm_no, pm_no, pm_no] [.null] _ _
        refine pm_R_lo pm_M118 (pc' := 21) (ls' := [.ref 16, .int x1, .int x2, .int x3, .null, .null, .null, pm_no, pm_no, pm_no]) (st' := []) rfl rfl rfl ?_
        refine pm_R_lo pm_M118 (pc' := 23) rfl rfl rfl ?_
        refine pm_R_br pm_M118 (pc' := 49) rfl rfl ?_
        refine pm_R_op pm_M118 (pc' := 50) (st' := [.int (-1)]) rfl rfl rfl ?_
        refine pm_R_ret pm_M118 (r := some (.int (-1))) rfl rfl ?_
        show pm_R _ 0 1824 [.ref 0, .ref 16, .ref 41, .int 0] [.int (-1)] _ _
        refine pm_R_lo pm_M0 (pc' := 1825) (pm_q0_23 (Nat.le_of_ble_eq_true rfl)) rfl rfl ?_
        refine pm_R_lo pm_M0 (pc' := 1826) (pm_q0_23 (Nat.le_of_ble_eq_true rfl)) rfl rfl ?_
        refine pm_R_lo pm_M0 (pc' := 1827) (pm_q0_23 (Nat.le_of_ble_eq_true rfl)) rfl rfl ?_
        refine pm_R_op pm_M0 (pc' := 1828) (st' := [.int 1, .int 0, .ref 0, .ref 41, .int (-1)]) (pm_q0_23 (Nat.le_of_ble_eq_true rfl)) rfl rfl ?_
        refine pm_R_op pm_M0 (pc' := 1829) (st' := [.int 1, .ref 0, .ref 41, .int (-1)]) (pm_q0_23 (Nat.le_of_ble_eq_true rfl)) rfl rfl ?_
        refine pm_R_iald pm_M0 (pc' := 1830) (v := x1) (pm_q0_23 (Nat.le_of_ble_eq_true rfl)) (hh 0 (Nat.le_of_ble_eq_true rfl)) (Nat.le_of_ble_eq_true rfl) rfl hx1 rfl ?_
        refine pm_R_lo pm_M0 (pc' := 1831) (pm_q0_23 (Nat.le_of_ble_eq_true rfl)) rfl rfl ?_
        refine pm_R_lo pm_M0 (pc' := 1832) (pm_q0_23 (Nat.le_of_ble_eq_true rfl)) rfl rfl ?_
        refine pm_R_op pm_M0 (pc' := 1833) (st' := [.int 2, .int 0, .ref 0, .int x1, .ref 41, .int (-1)]) (pm_q0_23 (Nat.le_of_ble_eq_true rfl)) rfl rfl ?_
        refine pm_R_op pm_M0 (pc' := 1834) (st' := [.int 2, .ref 0, .int x1, .ref 41, .int (-1)]) (pm_q0_23 (Nat.le_of_ble_eq_true rfl)) rfl rfl ?_
        refine pm_R_iald pm_M0 (pc' := 1835) (v := x2) (pm_q0_23 (Nat.le_of_ble_eq_true rfl)) (hh 0 (Nat.le_of_ble_eq_true rfl)) (Nat.le_of_ble_eq_true rfl) rfl hx2 rfl ?_
        refine pm_R_lo pm_M0 (pc' := 1836) (pm_q0_23 (Nat.le_of_ble_eq_true rfl)) rfl rfl ?_
        refine pm_R_lo pm_M0 (pc' := 1837) (pm_q0_23 (Nat.le_of_ble_eq_true rfl)) rfl rfl ?_
        refine pm_R_op pm_M0 (pc' := 1838) (st' := [.int 3, .int 0, .ref 0, .int x2, .int x1, .ref 41, .int (-1)]) (pm_q0_23 (Nat.le_of_ble_eq_true rfl)) rfl rfl ?_
        refine pm_R_op pm_M0 (pc' := 1839) (st' := [.int 3, .ref 0, .int x2, .int x1, .ref 41, .int (-1)]) (pm_q0_23 (Nat.le_of_ble_eq_true rfl)) rfl rfl ?_
        refine pm_R_iald pm_M0 (pc' := 1840) (v := x3) (pm_q0_23 (Nat.le_of_ble_eq_true rfl)) (hh 0 (Nat.le_of_ble_eq_true rfl)) (Nat.le_of_ble_eq_true rfl) rfl hx3 rfl ?_
        refine pm_R_cv pm_M0 (pc' := 1843) (a := 41) (ra := [.int x3, .int x2, .int x1]) (rest := [.int (-1)]) (ls' := [.ref 41, .int x1, .int x2, .int x3, pm_no, pm_no, pm_no]) (pm_q0_23 (Nat.le_of_ble_eq_true rfl)) rfl (Or.inl rfl) pm_M288 (hh 41 (Nat.le_of_ble_eq_true rfl)) rfl (Nat.le_of_ble_eq_true rfl) (Nat.le_of_ble_eq_true rfl) rfl rfl (Nat.le_of_ble_eq_true rfl) rfl rfl ?_
        refine pm_R_lo pm_M288 (pc' := 1) rfl rfl rfl ?_
        refine pm_R_op pm_M288 (pc' := 2) (st' := [.int 0, .ref 41]) rfl rfl rfl ?_
        refine pm_R_put pm_M288 (pc' := 5) (fs' := [.int 0, .ref 42, .ref 43, .ref 44, .ref 45, .ref 46, .ref 47, .ref 48, .ref 49, .ref 50, .int 0, .int 0, .int 0, .int 0, .int 0, .long 0, .int 0, .int 0, .int 0, .ref 51, .ref 52, .int 0, .int 0, .int 0, .int 0, .ref 53, .int 0, .int 0, .ref 54, .ref 55, .ref 56, .int 0, .ref 57, .ref 58, .ref 59, .ref 60, .ref 61, .ref 62, .ref 63, .ref 64, .ref 65, .ref 66, .int 0, .int 0, .int 0, .ref 67, .ref 68, .int 0, .ref 69, .int 0, .int 0, .ref 70, .ref 71]) rfl rfl rfl (hh 41 (Nat.le_of_ble_eq_true rfl)) (Nat.le_of_ble_eq_true rfl) (Nat.le_of_ble_eq_true rfl) (Nat.le_of_ble_eq_true rfl) rfl (Or.inl rfl) rfl rfl ?_
        refine pm_R_lo pm_M288 (pc' := 6) rfl rfl rfl ?_
        refine pm_R_op pm_M288 (pc' := 7) (st' := [.int 1, .ref 41]) rfl rfl rfl ?_
        refine pm_R_lo pm_M288 (pc' := 8) rfl rfl rfl ?_
        refine pm_R_cv pm_M288 (pc' := 11) (a := 41) (ra := [.int x3, .int 1]) (rest := []) (ls' := [.ref 41, .int 1, .int x3]) rfl rfl (Or.inl rfl) pm_M177 rfl rfl (Nat.le_of_ble_eq_true rfl) (Nat.le_of_ble_eq_true rfl) rfl rfl (Nat.le_of_ble_eq_true rfl) rfl rfl ?_
        refine pm_R_lo pm_M177 (pc' := 1) rfl rfl rfl ?_
        refine pm_R_op pm_M177 (pc' := 2) (st' := [.int 0, .int x3]) rfl rfl rfl ?_
        refine pm_R_lo pm_M177 (pc' := 3) rfl rfl rfl ?_
        refine pm_R_get pm_M177 (pc' := 6) (v := .ref 46) rfl rfl rfl (Nat.le_of_ble_eq_true rfl) (Nat.le_of_ble_eq_true rfl) rfl rfl ?_
        refine pm_R_lo pm_M177 (pc' := 7) rfl rfl rfl ?_
        refine pm_R_iald pm_M177 (pc' := 8) (v := 0) rfl (hh 46 (Nat.le_of_ble_eq_true rfl)) (Nat.le_of_ble_eq_true rfl) rfl rfl rfl ?_
        refine pm_R_op pm_M177 (pc' := 9) (st' := [.int 1, .int 0, .int 0, .int x3]) rfl rfl rfl ?_
        refine pm_R_op pm_M177 (pc' := 10) (st' := [.int (-1), .int 0, .int x3]) rfl rfl rfl ?_
        refine pm_R_cs pm_M177 (pc' := 13) (ra := [.int (-1), .int 0, .int x3]) (rest := []) (ls' := [.int x3, .int 0, .int (-1)]) rfl rfl (Or.inl rfl) pm_M174 rfl rfl (Nat.le_of_ble_eq_true rfl) rfl rfl ?_
        refine pm_R_lo pm_M174 (pc' := 1) rfl rfl rfl ?_
        refine pm_R_lo pm_M174 (pc' := 2) rfl rfl rfl ?_
        refine pm_R_icmp pm_M174 (t := 14) (pc' := 5) rfl rfl rfl (fun c_6 => by exact absurd c_6 c_3) (fun c_6 => ?_)
        refine pm_R_lo pm_M174 (pc' := 6) rfl rfl rfl ?_
        refine pm_R_lo pm_M174 (pc' := 7) rfl rfl rfl ?_
        refine pm_R_icmp pm_M174 (t := 14) (pc' := 10) rfl rfl rfl (fun c_7 => ?_) (fun c_7 => by have z0 : ((-1) : Int32).toInt = -1 := (by decide); have z1 : ((0) : Int32).toInt = 0 := (by decide); have q0 := (Int32.le_iff_toInt_le.mp (Int32.not_lt.mp c_3)); have q1 := (Int32.le_iff_toInt_le.mp (Int32.not_lt.mp c_7)); exfalso; omega)
        refine pm_R_op pm_M174 (pc' := 15) (st' := [.int 0]) rfl rfl rfl ?_
        refine pm_R_ret pm_M174 (r := some (.int 0)) rfl rfl ?_
        show pm_R _ 177 13 [.ref 41, .int 1, .int x3] [.int 0] _ _
        refine pm_R_ret pm_M177 (r := some (.int 0)) rfl rfl ?_
        show pm_R _ 288 11 [.ref 41, .int x1, .int x2, .int x3, pm_no, pm_no, pm_no] [.int 0] _ _
        refine pm_R_br pm_M288 (pc' := 39) (st' := []) rfl rfl ?_
        refine pm_R_op pm_M288 (pc' := 40) (st' := [.int (-1)]) rfl rfl rfl ?_
        refine pm_R_ret pm_M288 (r := some (.int (-1))) rfl rfl ?_
        show pm_R _ 0 1843 [.ref 0, .ref 16, .ref 41, .int 0] [.int (-1), .int (-1)] _ _
        refine pm_R_br pm_M0 (pc' := 2121) (st' := []) (pm_q0_23 (Nat.le_of_ble_eq_true rfl)) rfl ?_
        exact p1_tail (hh 0 (Nat.le_of_ble_eq_true rfl)) (Nat.le_of_ble_eq_true rfl) (Nat.le_of_ble_eq_true rfl) (Nat.le_of_ble_eq_true rfl)
    · refine pm_R_lo pm_M66 (pc' := 5) rfl rfl rfl ?_
      refine pm_R_lo pm_M66 (pc' := 6) rfl rfl rfl ?_
      refine pm_R_get pm_M66 (pc' := 9) (v := .ref 17) rfl rfl (hh 16 (Nat.le_of_ble_eq_true rfl)) (Nat.le_of_ble_eq_true rfl) (Nat.le_of_ble_eq_true rfl) rfl rfl ?_
      refine pm_R_get pm_M66 (pc' := 12) (v := .ref 23) rfl rfl (hh 17 (Nat.le_of_ble_eq_true rfl)) (Nat.le_of_ble_eq_true rfl) (Nat.le_of_ble_eq_true rfl) rfl rfl ?_
      refine pm_R_op pm_M66 (pc' := 13) (st' := [.int 1, .ref 23, .int x2]) rfl rfl rfl ?_
      refine pm_R_iald pm_M66 (pc' := 14) (v := 0) rfl (hh 23 (Nat.le_of_ble_eq_true rfl)) (Nat.le_of_ble_eq_true rfl) rfl rfl rfl ?_
      refine pm_R_icmp pm_M66 (t := 21) (pc' := 17) rfl rfl rfl (fun c_8 => by exact absurd c_8 c_2) (fun c_8 => ?_)
      refine pm_R_op pm_M66 (pc' := 18) (st' := [.null]) rfl rfl rfl ?_
      refine pm_R_br pm_M66 (pc' := 30) rfl rfl ?_
      refine pm_R_ret pm_M66 (r := some (.null)) rfl rfl ?_
      show pm_R _ 118 12 [.ref 16, .int x1, .int x2, .int x3, .null, pm_no, pm_no, pm_no, pm_no, pm_no] [.null] _ _
      refine pm_R_lo pm_M118 (pc' := 14) (ls' := [.ref 16, .int x1, .int x2, .int x3, .null, .null, pm_no, pm_no, pm_no, pm_no]) (st' := []) rfl rfl rfl ?_
      refine pm_R_lo pm_M118 (pc' := 15) rfl rfl rfl ?_
      refine pm_R_lo pm_M118 (pc' := 16) rfl rfl rfl ?_
      refine pm_R_cv pm_M118 (pc' := 19) (a := 16) (ra := [.int x3]) (rest := []) (ls' := [.ref 16, .int x3]) rfl rfl (Or.inl rfl) pm_M66 (hh 16 (Nat.le_of_ble_eq_true rfl)) rfl (Nat.le_of_ble_eq_true rfl) (Nat.le_of_ble_eq_true rfl) rfl rfl (Nat.le_of_ble_eq_true rfl) rfl rfl ?_
      refine pm_R_lo pm_M66 (pc' := 1) rfl rfl rfl ?_
      refine pm_R_ifc pm_M66 (t := 17) (pc' := 4) rfl rfl rfl (fun c_9 => ?_) (fun c_9 => ?_)
      · refine pm_R_op pm_M66 (pc' := 18) (st' := [.null]) rfl rfl rfl ?_
        refine pm_R_br pm_M66 (pc' := 30) rfl rfl ?_
        refine pm_R_ret pm_M66 (r := some (.null)) rfl rfl ?_
        show pm_R _ 118 19 [.ref 16, .int x1, .int x2, .int x3, .null, .null, pm_no, pm_no, pm_no, pm_no] [.null] _ _
        refine pm_R_lo pm_M118 (pc' := 21) (ls' := [.ref 16, .int x1, .int x2, .int x3, .null, .null, .null, pm_no, pm_no, pm_no]) (st' := []) rfl rfl rfl ?_
        refine pm_R_lo pm_M118 (pc' := 23) rfl rfl rfl ?_
        refine pm_R_br pm_M118 (pc' := 49) rfl rfl ?_
        refine pm_R_op pm_M118 (pc' := 50) (st' := [.int (-1)]) rfl rfl rfl ?_
        refine pm_R_ret pm_M118 (r := some (.int (-1))) rfl rfl ?_
        show pm_R _ 0 1824 [.ref 0, .ref 16, .ref 41, .int 0] [.int (-1)] _ _
        refine pm_R_lo pm_M0 (pc' := 1825) (pm_q0_23 (Nat.le_of_ble_eq_true rfl)) rfl rfl ?_
        refine pm_R_lo pm_M0 (pc' := 1826) (pm_q0_23 (Nat.le_of_ble_eq_true rfl)) rfl rfl ?_
        refine pm_R_lo pm_M0 (pc' := 1827) (pm_q0_23 (Nat.le_of_ble_eq_true rfl)) rfl rfl ?_
        refine pm_R_op pm_M0 (pc' := 1828) (st' := [.int 1, .int 0, .ref 0, .ref 41, .int (-1)]) (pm_q0_23 (Nat.le_of_ble_eq_true rfl)) rfl rfl ?_
        refine pm_R_op pm_M0 (pc' := 1829) (st' := [.int 1, .ref 0, .ref 41, .int (-1)]) (pm_q0_23 (Nat.le_of_ble_eq_true rfl)) rfl rfl ?_
        refine pm_R_iald pm_M0 (pc' := 1830) (v := x1) (pm_q0_23 (Nat.le_of_ble_eq_true rfl)) (hh 0 (Nat.le_of_ble_eq_true rfl)) (Nat.le_of_ble_eq_true rfl) rfl hx1 rfl ?_
        refine pm_R_lo pm_M0 (pc' := 1831) (pm_q0_23 (Nat.le_of_ble_eq_true rfl)) rfl rfl ?_
        refine pm_R_lo pm_M0 (pc' := 1832) (pm_q0_23 (Nat.le_of_ble_eq_true rfl)) rfl rfl ?_
        refine pm_R_op pm_M0 (pc' := 1833) (st' := [.int 2, .int 0, .ref 0, .int x1, .ref 41, .int (-1)]) (pm_q0_23 (Nat.le_of_ble_eq_true rfl)) rfl rfl ?_
        refine pm_R_op pm_M0 (pc' := 1834) (st' := [.int 2, .ref 0, .int x1, .ref 41, .int (-1)]) (pm_q0_23 (Nat.le_of_ble_eq_true rfl)) rfl rfl ?_
        refine pm_R_iald pm_M0 (pc' := 1835) (v := x2) (pm_q0_23 (Nat.le_of_ble_eq_true rfl)) (hh 0 (Nat.le_of_ble_eq_true rfl)) (Nat.le_of_ble_eq_true rfl) rfl hx2 rfl ?_
        refine pm_R_lo pm_M0 (pc' := 1836) (pm_q0_23 (Nat.le_of_ble_eq_true rfl)) rfl rfl ?_
        refine pm_R_lo pm_M0 (pc' := 1837) (pm_q0_23 (Nat.le_of_ble_eq_true rfl)) rfl rfl ?_
        refine pm_R_op pm_M0 (pc' := 1838) (st' := [.int 3, .int 0, .ref 0, .int x2, .int x1, .ref 41, .int (-1)]) (pm_q0_23 (Nat.le_of_ble_eq_true rfl)) rfl rfl ?_
        refine pm_R_op pm_M0 (pc' := 1839) (st' := [.int 3, .ref 0, .int x2, .int x1, .ref 41, .int (-1)]) (pm_q0_23 (Nat.le_of_ble_eq_true rfl)) rfl rfl ?_
        refine pm_R_iald pm_M0 (pc' := 1840) (v := x3) (pm_q0_23 (Nat.le_of_ble_eq_true rfl)) (hh 0 (Nat.le_of_ble_eq_true rfl)) (Nat.le_of_ble_eq_true rfl) rfl hx3 rfl ?_
        refine pm_R_cv pm_M0 (pc' := 1843) (a := 41) (ra := [.int x3, .int x2, .int x1]) (rest := [.int (-1)]) (ls' := [.ref 41, .int x1, .int x2, .int x3, pm_no, pm_no, pm_no]) (pm_q0_23 (Nat.le_of_ble_eq_true rfl)) rfl (Or.inl rfl) pm_M288 (hh 41 (Nat.le_of_ble_eq_true rfl)) rfl (Nat.le_of_ble_eq_true rfl) (Nat.le_of_ble_eq_true rfl) rfl rfl (Nat.le_of_ble_eq_true rfl) rfl rfl ?_
        refine pm_R_lo pm_M288 (pc' := 1) rfl rfl rfl ?_
        refine pm_R_op pm_M288 (pc' := 2) (st' := [.int 0, .ref 41]) rfl rfl rfl ?_
        refine pm_R_put pm_M288 (pc' := 5) (fs' := [.int 0, .ref 42, .ref 43, .ref 44, .ref 45, .ref 46, .ref 47, .ref 48, .ref 49, .ref 50, .int 0, .int 0, .int 0, .int 0, .int 0, .long 0, .int 0, .int 0, .int 0, .ref 51, .ref 52, .int 0, .int 0, .int 0, .int 0, .ref 53, .int 0, .int 0, .ref 54, .ref 55, .ref 56, .int 0, .ref 57, .ref 58, .ref 59, .ref 60, .ref 61, .ref 62, .ref 63, .ref 64, .ref 65, .ref 66, .int 0, .int 0, .int 0, .ref 67, .ref 68, .int 0, .ref 69, .int 0, .int 0, .ref 70, .ref 71]) rfl rfl rfl (hh 41 (Nat.le_of_ble_eq_true rfl)) (Nat.le_of_ble_eq_true rfl) (Nat.le_of_ble_eq_true rfl) (Nat.le_of_ble_eq_true rfl) rfl (Or.inl rfl) rfl rfl ?_
        refine pm_R_lo pm_M288 (pc' := 6) rfl rfl rfl ?_
        refine pm_R_op pm_M288 (pc' := 7) (st' := [.int 1, .ref 41]) rfl rfl rfl ?_
        refine pm_R_lo pm_M288 (pc' := 8) rfl rfl rfl ?_
        refine pm_R_cv pm_M288 (pc' := 11) (a := 41) (ra := [.int x3, .int 1]) (rest := []) (ls' := [.ref 41, .int 1, .int x3]) rfl rfl (Or.inl rfl) pm_M177 rfl rfl (Nat.le_of_ble_eq_true rfl) (Nat.le_of_ble_eq_true rfl) rfl rfl (Nat.le_of_ble_eq_true rfl) rfl rfl ?_
        refine pm_R_lo pm_M177 (pc' := 1) rfl rfl rfl ?_
        refine pm_R_op pm_M177 (pc' := 2) (st' := [.int 0, .int x3]) rfl rfl rfl ?_
        refine pm_R_lo pm_M177 (pc' := 3) rfl rfl rfl ?_
        refine pm_R_get pm_M177 (pc' := 6) (v := .ref 46) rfl rfl rfl (Nat.le_of_ble_eq_true rfl) (Nat.le_of_ble_eq_true rfl) rfl rfl ?_
        refine pm_R_lo pm_M177 (pc' := 7) rfl rfl rfl ?_
        refine pm_R_iald pm_M177 (pc' := 8) (v := 0) rfl (hh 46 (Nat.le_of_ble_eq_true rfl)) (Nat.le_of_ble_eq_true rfl) rfl rfl rfl ?_
        refine pm_R_op pm_M177 (pc' := 9) (st' := [.int 1, .int 0, .int 0, .int x3]) rfl rfl rfl ?_
        refine pm_R_op pm_M177 (pc' := 10) (st' := [.int (-1), .int 0, .int x3]) rfl rfl rfl ?_
        refine pm_R_cs pm_M177 (pc' := 13) (ra := [.int (-1), .int 0, .int x3]) (rest := []) (ls' := [.int x3, .int 0, .int (-1)]) rfl rfl (Or.inl rfl) pm_M174 rfl rfl (Nat.le_of_ble_eq_true rfl) rfl rfl ?_
        refine pm_R_lo pm_M174 (pc' := 1) rfl rfl rfl ?_
        refine pm_R_lo pm_M174 (pc' := 2) rfl rfl rfl ?_
        refine pm_R_icmp pm_M174 (t := 14) (pc' := 5) rfl rfl rfl (fun c_10 => ?_) (fun c_10 => by exact absurd c_9 c_10)
        refine pm_R_op pm_M174 (pc' := 15) (st' := [.int 0]) rfl rfl rfl ?_
        refine pm_R_ret pm_M174 (r := some (.int 0)) rfl rfl ?_
        show pm_R _ 177 13 [.ref 41, .int 1, .int x3] [.int 0] _ _
        refine pm_R_ret pm_M177 (r := some (.int 0)) rfl rfl ?_
        show pm_R _ 288 11 [.ref 41, .int x1, .int x2, .int x3, pm_no, pm_no, pm_no] [.int 0] _ _
        refine pm_R_br pm_M288 (pc' := 39) (st' := []) rfl rfl ?_
        refine pm_R_op pm_M288 (pc' := 40) (st' := [.int (-1)]) rfl rfl rfl ?_
        refine pm_R_ret pm_M288 (r := some (.int (-1))) rfl rfl ?_
        show pm_R _ 0 1843 [.ref 0, .ref 16, .ref 41, .int 0] [.int (-1), .int (-1)] _ _
        refine pm_R_br pm_M0 (pc' := 2121) (st' := []) (pm_q0_23 (Nat.le_of_ble_eq_true rfl)) rfl ?_
        exact p1_tail (hh 0 (Nat.le_of_ble_eq_true rfl)) (Nat.le_of_ble_eq_true rfl) (Nat.le_of_ble_eq_true rfl) (Nat.le_of_ble_eq_true rfl)
      · refine pm_R_lo pm_M66 (pc' := 5) rfl rfl rfl ?_
        refine pm_R_lo pm_M66 (pc' := 6) rfl rfl rfl ?_
        refine pm_R_get pm_M66 (pc' := 9) (v := .ref 17) rfl rfl (hh 16 (Nat.le_of_ble_eq_true rfl)) (Nat.le_of_ble_eq_true rfl) (Nat.le_of_ble_eq_true rfl) rfl rfl ?_
        refine pm_R_get pm_M66 (pc' := 12) (v := .ref 23) rfl rfl (hh 17 (Nat.le_of_ble_eq_true rfl)) (Nat.le_of_ble_eq_true rfl) (Nat.le_of_ble_eq_true rfl) rfl rfl ?_
        refine pm_R_op pm_M66 (pc' := 13) (st' := [.int 1, .ref 23, .int x3]) rfl rfl rfl ?_
        refine pm_R_iald pm_M66 (pc' := 14) (v := 0) rfl (hh 23 (Nat.le_of_ble_eq_true rfl)) (Nat.le_of_ble_eq_true rfl) rfl rfl rfl ?_
        refine pm_R_icmp pm_M66 (t := 21) (pc' := 17) rfl rfl rfl (fun c_11 => by exact absurd c_11 c_9) (fun c_11 => ?_)
        refine pm_R_op pm_M66 (pc' := 18) (st' := [.null]) rfl rfl rfl ?_
        refine pm_R_br pm_M66 (pc' := 30) rfl rfl ?_
        refine pm_R_ret pm_M66 (r := some (.null)) rfl rfl ?_
        show pm_R _ 118 19 [.ref 16, .int x1, .int x2, .int x3, .null, .null, pm_no, pm_no, pm_no, pm_no] [.null] _ _
        refine pm_R_lo pm_M118 (pc' := 21) (ls' := [.ref 16, .int x1, .int x2, .int x3, .null, .null, .null, pm_no, pm_no, pm_no]) (st' := []) rfl rfl rfl ?_
        refine pm_R_lo pm_M118 (pc' := 23) rfl rfl rfl ?_
        refine pm_R_br pm_M118 (pc' := 49) rfl rfl ?_
        refine pm_R_op pm_M118 (pc' := 50) (st' := [.int (-1)]) rfl rfl rfl ?_
        refine pm_R_ret pm_M118 (r := some (.int (-1))) rfl rfl ?_
        show pm_R _ 0 1824 [.ref 0, .ref 16, .ref 41, .int 0] [.int (-1)] _ _
        refine pm_R_lo pm_M0 (pc' := 1825) (pm_q0_23 (Nat.le_of_ble_eq_true rfl)) rfl rfl ?_
        refine pm_R_lo pm_M0 (pc' := 1826) (pm_q0_23 (Nat.le_of_ble_eq_true rfl)) rfl rfl ?_
        refine pm_R_lo pm_M0 (pc' := 1827) (pm_q0_23 (Nat.le_of_ble_eq_true rfl)) rfl rfl ?_
        refine pm_R_op pm_M0 (pc' := 1828) (st' := [.int 1, .int 0, .ref 0, .ref 41, .int (-1)]) (pm_q0_23 (Nat.le_of_ble_eq_true rfl)) rfl rfl ?_
        refine pm_R_op pm_M0 (pc' := 1829) (st' := [.int 1, .ref 0, .ref 41, .int (-1)]) (pm_q0_23 (Nat.le_of_ble_eq_true rfl)) rfl rfl ?_
        refine pm_R_iald pm_M0 (pc' := 1830) (v := x1) (pm_q0_23 (Nat.le_of_ble_eq_true rfl)) (hh 0 (Nat.le_of_ble_eq_true rfl)) (Nat.le_of_ble_eq_true rfl) rfl hx1 rfl ?_
        refine pm_R_lo pm_M0 (pc' := 1831) (pm_q0_23 (Nat.le_of_ble_eq_true rfl)) rfl rfl ?_
        refine pm_R_lo pm_M0 (pc' := 1832) (pm_q0_23 (Nat.le_of_ble_eq_true rfl)) rfl rfl ?_
        refine pm_R_op pm_M0 (pc' := 1833) (st' := [.int 2, .int 0, .ref 0, .int x1, .ref 41, .int (-1)]) (pm_q0_23 (Nat.le_of_ble_eq_true rfl)) rfl rfl ?_
        refine pm_R_op pm_M0 (pc' := 1834) (st' := [.int 2, .ref 0, .int x1, .ref 41, .int (-1)]) (pm_q0_23 (Nat.le_of_ble_eq_true rfl)) rfl rfl ?_
        refine pm_R_iald pm_M0 (pc' := 1835) (v := x2) (pm_q0_23 (Nat.le_of_ble_eq_true rfl)) (hh 0 (Nat.le_of_ble_eq_true rfl)) (Nat.le_of_ble_eq_true rfl) rfl hx2 rfl ?_
        refine pm_R_lo pm_M0 (pc' := 1836) (pm_q0_23 (Nat.le_of_ble_eq_true rfl)) rfl rfl ?_
        refine pm_R_lo pm_M0 (pc' := 1837) (pm_q0_23 (Nat.le_of_ble_eq_true rfl)) rfl rfl ?_
        refine pm_R_op pm_M0 (pc' := 1838) (st' := [.int 3, .int 0, .ref 0, .int x2, .int x1, .ref 41, .int (-1)]) (pm_q0_23 (Nat.le_of_ble_eq_true rfl)) rfl rfl ?_
        refine pm_R_op pm_M0 (pc' := 1839) (st' := [.int 3, .ref 0, .int x2, .int x1, .ref 41, .int (-1)]) (pm_q0_23 (Nat.le_of_ble_eq_true rfl)) rfl rfl ?_
        refine pm_R_iald pm_M0 (pc' := 1840) (v := x3) (pm_q0_23 (Nat.le_of_ble_eq_true rfl)) (hh 0 (Nat.le_of_ble_eq_true rfl)) (Nat.le_of_ble_eq_true rfl) rfl hx3 rfl ?_
        refine pm_R_cv pm_M0 (pc' := 1843) (a := 41) (ra := [.int x3, .int x2, .int x1]) (rest := [.int (-1)]) (ls' := [.ref 41, .int x1, .int x2, .int x3, pm_no, pm_no, pm_no]) (pm_q0_23 (Nat.le_of_ble_eq_true rfl)) rfl (Or.inl rfl) pm_M288 (hh 41 (Nat.le_of_ble_eq_true rfl)) rfl (Nat.le_of_ble_eq_true rfl) (Nat.le_of_ble_eq_true rfl) rfl rfl (Nat.le_of_ble_eq_true rfl) rfl rfl ?_
        refine pm_R_lo pm_M288 (pc' := 1) rfl rfl rfl ?_
        refine pm_R_op pm_M288 (pc' := 2) (st' := [.int 0, .ref 41]) rfl rfl rfl ?_
        refine pm_R_put pm_M288 (pc' := 5) (fs' := [.int 0, .ref 42, .ref 43, .ref 44, .ref 45, .ref 46, .ref 47, .ref 48, .ref 49, .ref 50, .int 0, .int 0, .int 0, .int 0, .int 0, .long 0, .int 0, .int 0, .int 0, .ref 51, .ref 52, .int 0, .int 0, .int 0, .int 0, .ref 53, .int 0, .int 0, .ref 54, .ref 55, .ref 56, .int 0, .ref 57, .ref 58, .ref 59, .ref 60, .ref 61, .ref 62, .ref 63, .ref 64, .ref 65, .ref 66, .int 0, .int 0, .int 0, .ref 67, .ref 68, .int 0, .ref 69, .int 0, .int 0, .ref 70, .ref 71]) rfl rfl rfl (hh 41 (Nat.le_of_ble_eq_true rfl)) (Nat.le_of_ble_eq_true rfl) (Nat.le_of_ble_eq_true rfl) (Nat.le_of_ble_eq_true rfl) rfl (Or.inl rfl) rfl rfl ?_
        refine pm_R_lo pm_M288 (pc' := 6) rfl rfl rfl ?_
        refine pm_R_op pm_M288 (pc' := 7) (st' := [.int 1, .ref 41]) rfl rfl rfl ?_
        refine pm_R_lo pm_M288 (pc' := 8) rfl rfl rfl ?_
        refine pm_R_cv pm_M288 (pc' := 11) (a := 41) (ra := [.int x3, .int 1]) (rest := []) (ls' := [.ref 41, .int 1, .int x3]) rfl rfl (Or.inl rfl) pm_M177 rfl rfl (Nat.le_of_ble_eq_true rfl) (Nat.le_of_ble_eq_true rfl) rfl rfl (Nat.le_of_ble_eq_true rfl) rfl rfl ?_
        refine pm_R_lo pm_M177 (pc' := 1) rfl rfl rfl ?_
        refine pm_R_op pm_M177 (pc' := 2) (st' := [.int 0, .int x3]) rfl rfl rfl ?_
        refine pm_R_lo pm_M177 (pc' := 3) rfl rfl rfl ?_
        refine pm_R_get pm_M177 (pc' := 6) (v := .ref 46) rfl rfl rfl (Nat.le_of_ble_eq_true rfl) (Nat.le_of_ble_eq_true rfl) rfl rfl ?_
        refine pm_R_lo pm_M177 (pc' := 7) rfl rfl rfl ?_
        refine pm_R_iald pm_M177 (pc' := 8) (v := 0) rfl (hh 46 (Nat.le_of_ble_eq_true rfl)) (Nat.le_of_ble_eq_true rfl) rfl rfl rfl ?_
        refine pm_R_op pm_M177 (pc' := 9) (st' := [.int 1, .int 0, .int 0, .int x3]) rfl rfl rfl ?_
        refine pm_R_op pm_M177 (pc' := 10) (st' := [.int (-1), .int 0, .int x3]) rfl rfl rfl ?_
        refine pm_R_cs pm_M177 (pc' := 13) (ra := [.int (-1), .int 0, .int x3]) (rest := []) (ls' := [.int x3, .int 0, .int (-1)]) rfl rfl (Or.inl rfl) pm_M174 rfl rfl (Nat.le_of_ble_eq_true rfl) rfl rfl ?_
        refine pm_R_lo pm_M174 (pc' := 1) rfl rfl rfl ?_
        refine pm_R_lo pm_M174 (pc' := 2) rfl rfl rfl ?_
        refine pm_R_icmp pm_M174 (t := 14) (pc' := 5) rfl rfl rfl (fun c_12 => by exact absurd c_12 c_9) (fun c_12 => ?_)
        refine pm_R_lo pm_M174 (pc' := 6) rfl rfl rfl ?_
        refine pm_R_lo pm_M174 (pc' := 7) rfl rfl rfl ?_
        refine pm_R_icmp pm_M174 (t := 14) (pc' := 10) rfl rfl rfl (fun c_13 => ?_) (fun c_13 => by have z0 : ((-1) : Int32).toInt = -1 := (by decide); have z1 : ((0) : Int32).toInt = 0 := (by decide); have q0 := (Int32.le_iff_toInt_le.mp (Int32.not_lt.mp c_9)); have q1 := (Int32.le_iff_toInt_le.mp (Int32.not_lt.mp c_13)); exfalso; omega)
        refine pm_R_op pm_M174 (pc' := 15) (st' := [.int 0]) rfl rfl rfl ?_
        refine pm_R_ret pm_M174 (r := some (.int 0)) rfl rfl ?_
        show pm_R _ 177 13 [.ref 41, .int 1, .int x3] [.int 0] _ _
        refine pm_R_ret pm_M177 (r := some (.int 0)) rfl rfl ?_
        show pm_R _ 288 11 [.ref 41, .int x1, .int x2, .int x3, pm_no, pm_no, pm_no] [.int 0] _ _
        refine pm_R_br pm_M288 (pc' := 39) (st' := []) rfl rfl ?_
        refine pm_R_op pm_M288 (pc' := 40) (st' := [.int (-1)]) rfl rfl rfl ?_
        refine pm_R_ret pm_M288 (r := some (.int (-1))) rfl rfl ?_
        show pm_R _ 0 1843 [.ref 0, .ref 16, .ref 41, .int 0] [.int (-1), .int (-1)] _ _
        refine pm_R_br pm_M0 (pc' := 2121) (st' := []) (pm_q0_23 (Nat.le_of_ble_eq_true rfl)) rfl ?_
        exact p1_tail (hh 0 (Nat.le_of_ble_eq_true rfl)) (Nat.le_of_ble_eq_true rfl) (Nat.le_of_ble_eq_true rfl) (Nat.le_of_ble_eq_true rfl)
  · refine pm_R_lo pm_M62 (pc' := 5) rfl rfl rfl ?_
    refine pm_R_lo pm_M62 (pc' := 6) rfl rfl rfl ?_
    refine pm_R_get pm_M62 (pc' := 9) (v := .ref 17) rfl rfl (hh 16 (Nat.le_of_ble_eq_true rfl)) (Nat.le_of_ble_eq_true rfl) (Nat.le_of_ble_eq_true rfl) rfl rfl ?_
    refine pm_R_get pm_M62 (pc' := 12) (v := .ref 23) rfl rfl (hh 17 (Nat.le_of_ble_eq_true rfl)) (Nat.le_of_ble_eq_true rfl) (Nat.le_of_ble_eq_true rfl) rfl rfl ?_
    refine pm_R_op pm_M62 (pc' := 13) (st' := [.int 0, .ref 23, .int x1]) rfl rfl rfl ?_
    refine pm_R_iald pm_M62 (pc' := 14) (v := 0) rfl (hh 23 (Nat.le_of_ble_eq_true rfl)) (Nat.le_of_ble_eq_true rfl) rfl rfl rfl ?_
    refine pm_R_icmp pm_M62 (t := 21) (pc' := 17) rfl rfl rfl (fun c_14 => by exact absurd c_14 c_1) (fun c_14 => ?_)
    refine pm_R_op pm_M62 (pc' := 18) (st' := [.null]) rfl rfl rfl ?_
    refine pm_R_br pm_M62 (pc' := 30) rfl rfl ?_
    refine pm_R_ret pm_M62 (r := some (.null)) rfl rfl ?_
    show pm_R _ 118 5 [.ref 16, .int x1, .int x2, .int x3, pm_no, pm_no, pm_no, pm_no, pm_no, pm_no] [.null] _ _
    refine pm_R_lo pm_M118 (pc' := 7) (ls' := [.ref 16, .int x1, .int x2, .int x3, .null, pm_no, pm_no, pm_no, pm_no, pm_no]) (st' := []) rfl rfl rfl ?_
    refine pm_R_lo pm_M118 (pc' := 8) rfl rfl rfl ?_
    refine pm_R_lo pm_M118 (pc' := 9) rfl rfl rfl ?_
    refine pm_R_cv pm_M118 (pc' := 12) (a := 16) (ra := [.int x2]) (rest := []) (ls' := [.ref 16, .int x2]) rfl rfl (Or.inl rfl) pm_M66 (hh 16 (Nat.le_of_ble_eq_true rfl)) rfl (Nat.le_of_ble_eq_true rfl) (Nat.le_of_ble_eq_true rfl) rfl rfl (Nat.le_of_ble_eq_true rfl) rfl rfl ?_
    refine pm_R_lo pm_M66 (pc' := 1) rfl rfl rfl ?_
    refine pm_R_ifc pm_M66 (t := 17) (pc' := 4) rfl rfl rfl (fun c_15 => ?_) (fun c_15 => ?_)
    · refine pm_R_op pm_M66 (pc' := 18) (st' := [.null]) rfl rfl rfl ?_
      refine pm_R_br pm_M66 (pc' := 30) rfl rfl ?_
      refine pm_R_ret pm_M66 (r := some (.null)) rfl rfl ?_
      show pm_R _ 118 12 [.ref 16, .int x1, .int x2, .int x3, .null, pm_no, pm_no, pm_no, pm_no, pm_no] [.null] _ _
      refine pm_R_lo pm_M118 (pc' := 14) (ls' := [.ref 16, .int x1, .int x2, .int x3, .null, .null, pm_no, pm_no, pm_no, pm_no]) (st' := []) rfl rfl rfl ?_
      refine pm_R_lo pm_M118 (pc' := 15) rfl rfl rfl ?_
      refine pm_R_lo pm_M118 (pc' := 16) rfl rfl rfl ?_
      refine pm_R_cv pm_M118 (pc' := 19) (a := 16) (ra := [.int x3]) (rest := []) (ls' := [.ref 16, .int x3]) rfl rfl (Or.inl rfl) pm_M66 (hh 16 (Nat.le_of_ble_eq_true rfl)) rfl (Nat.le_of_ble_eq_true rfl) (Nat.le_of_ble_eq_true rfl) rfl rfl (Nat.le_of_ble_eq_true rfl) rfl rfl ?_
      refine pm_R_lo pm_M66 (pc' := 1) rfl rfl rfl ?_
      refine pm_R_ifc pm_M66 (t := 17) (pc' := 4) rfl rfl rfl (fun c_16 => ?_) (fun c_16 => ?_)
      · refine pm_R_op pm_M66 (pc' := 18) (st' := [.null]) rfl rfl rfl ?_
        refine pm_R_br pm_M66 (pc' := 30) rfl rfl ?_
        refine pm_R_ret pm_M66 (r := some (.null)) rfl rfl ?_
        show pm_R _ 118 19 [.ref 16, .int x1, .int x2, .int x3, .null, .null, pm_no, pm_no, pm_no, pm_no] [.null] _ _
        refine pm_R_lo pm_M118 (pc' := 21) (ls' := [.ref 16, .int x1, .int x2, .int x3, .null, .null, .null, pm_no, pm_no, pm_no]) (st' := []) rfl rfl rfl ?_
        refine pm_R_lo pm_M118 (pc' := 23) rfl rfl rfl ?_
        refine pm_R_br pm_M118 (pc' := 49) rfl rfl ?_
        refine pm_R_op pm_M118 (pc' := 50) (st' := [.int (-1)]) rfl rfl rfl ?_
        refine pm_R_ret pm_M118 (r := some (.int (-1))) rfl rfl ?_
        show pm_R _ 0 1824 [.ref 0, .ref 16, .ref 41, .int 0] [.int (-1)] _ _
        refine pm_R_lo pm_M0 (pc' := 1825) (pm_q0_23 (Nat.le_of_ble_eq_true rfl)) rfl rfl ?_
        refine pm_R_lo pm_M0 (pc' := 1826) (pm_q0_23 (Nat.le_of_ble_eq_true rfl)) rfl rfl ?_
        refine pm_R_lo pm_M0 (pc' := 1827) (pm_q0_23 (Nat.le_of_ble_eq_true rfl)) rfl rfl ?_
        refine pm_R_op pm_M0 (pc' := 1828) (st' := [.int 1, .int 0, .ref 0, .ref 41, .int (-1)]) (pm_q0_23 (Nat.le_of_ble_eq_true rfl)) rfl rfl ?_
        refine pm_R_op pm_M0 (pc' := 1829) (st' := [.int 1, .ref 0, .ref 41, .int (-1)]) (pm_q0_23 (Nat.le_of_ble_eq_true rfl)) rfl rfl ?_
        refine pm_R_iald pm_M0 (pc' := 1830) (v := x1) (pm_q0_23 (Nat.le_of_ble_eq_true rfl)) (hh 0 (Nat.le_of_ble_eq_true rfl)) (Nat.le_of_ble_eq_true rfl) rfl hx1 rfl ?_
        refine pm_R_lo pm_M0 (pc' := 1831) (pm_q0_23 (Nat.le_of_ble_eq_true rfl)) rfl rfl ?_
        refine pm_R_lo pm_M0 (pc' := 1832) (pm_q0_23 (Nat.le_of_ble_eq_true rfl)) rfl rfl ?_
        refine pm_R_op pm_M0 (pc' := 1833) (st' := [.int 2, .int 0, .ref 0, .int x1, .ref 41, .int (-1)]) (pm_q0_23 (Nat.le_of_ble_eq_true rfl)) rfl rfl ?_
        refine pm_R_op pm_M0 (pc' := 1834) (st' := [.int 2, .ref 0, .int x1, .ref 41, .int (-1)]) (pm_q0_23 (Nat.le_of_ble_eq_true rfl)) rfl rfl ?_
        refine pm_R_iald pm_M0 (pc' := 1835) (v := x2) (pm_q0_23 (Nat.le_of_ble_eq_true rfl)) (hh 0 (Nat.le_of_ble_eq_true rfl)) (Nat.le_of_ble_eq_true rfl) rfl hx2 rfl ?_
        refine pm_R_lo pm_M0 (pc' := 1836) (pm_q0_23 (Nat.le_of_ble_eq_true rfl)) rfl rfl ?_
        refine pm_R_lo pm_M0 (pc' := 1837) (pm_q0_23 (Nat.le_of_ble_eq_true rfl)) rfl rfl ?_
        refine pm_R_op pm_M0 (pc' := 1838) (st' := [.int 3, .int 0, .ref 0, .int x2, .int x1, .ref 41, .int (-1)]) (pm_q0_23 (Nat.le_of_ble_eq_true rfl)) rfl rfl ?_
        refine pm_R_op pm_M0 (pc' := 1839) (st' := [.int 3, .ref 0, .int x2, .int x1, .ref 41, .int (-1)]) (pm_q0_23 (Nat.le_of_ble_eq_true rfl)) rfl rfl ?_
        refine pm_R_iald pm_M0 (pc' := 1840) (v := x3) (pm_q0_23 (Nat.le_of_ble_eq_true rfl)) (hh 0 (Nat.le_of_ble_eq_true rfl)) (Nat.le_of_ble_eq_true rfl) rfl hx3 rfl ?_
        refine pm_R_cv pm_M0 (pc' := 1843) (a := 41) (ra := [.int x3, .int x2, .int x1]) (rest := [.int (-1)]) (ls' := [.ref 41, .int x1, .int x2, .int x3, pm_no, pm_no, pm_no]) (pm_q0_23 (Nat.le_of_ble_eq_true rfl)) rfl (Or.inl rfl) pm_M288 (hh 41 (Nat.le_of_ble_eq_true rfl)) rfl (Nat.le_of_ble_eq_true rfl) (Nat.le_of_ble_eq_true rfl) rfl rfl (Nat.le_of_ble_eq_true rfl) rfl rfl ?_
        refine pm_R_lo pm_M288 (pc' := 1) rfl rfl rfl ?_
        refine pm_R_op pm_M288 (pc' := 2) (st' := [.int 0, .ref 41]) rfl rfl rfl ?_
        refine pm_R_put pm_M288 (pc' := 5) (fs' := [.int 0, .ref 42, .ref 43, .ref 44, .ref 45, .ref 46, .ref 47, .ref 48, .ref 49, .ref 50, .int 0, .int 0, .int 0, .int 0, .int 0, .long 0, .int 0, .int 0, .int 0, .ref 51, .ref 52, .int 0, .int 0, .int 0, .int 0, .ref 53, .int 0, .int 0, .ref 54, .ref 55, .ref 56, .int 0, .ref 57, .ref 58, .ref 59, .ref 60, .ref 61, .ref 62, .ref 63, .ref 64, .ref 65, .ref 66, .int 0, .int 0, .int 0, .ref 67, .ref 68, .int 0, .ref 69, .int 0, .int 0, .ref 70, .ref 71]) rfl rfl rfl (hh 41 (Nat.le_of_ble_eq_true rfl)) (Nat.le_of_ble_eq_true rfl) (Nat.le_of_ble_eq_true rfl) (Nat.le_of_ble_eq_true rfl) rfl (Or.inl rfl) rfl rfl ?_
        refine pm_R_lo pm_M288 (pc' := 6) rfl rfl rfl ?_
        refine pm_R_op pm_M288 (pc' := 7) (st' := [.int 1, .ref 41]) rfl rfl rfl ?_
        refine pm_R_lo pm_M288 (pc' := 8) rfl rfl rfl ?_
        refine pm_R_cv pm_M288 (pc' := 11) (a := 41) (ra := [.int x3, .int 1]) (rest := []) (ls' := [.ref 41, .int 1, .int x3]) rfl rfl (Or.inl rfl) pm_M177 rfl rfl (Nat.le_of_ble_eq_true rfl) (Nat.le_of_ble_eq_true rfl) rfl rfl (Nat.le_of_ble_eq_true rfl) rfl rfl ?_
        refine pm_R_lo pm_M177 (pc' := 1) rfl rfl rfl ?_
        refine pm_R_op pm_M177 (pc' := 2) (st' := [.int 0, .int x3]) rfl rfl rfl ?_
        refine pm_R_lo pm_M177 (pc' := 3) rfl rfl rfl ?_
        refine pm_R_get pm_M177 (pc' := 6) (v := .ref 46) rfl rfl rfl (Nat.le_of_ble_eq_true rfl) (Nat.le_of_ble_eq_true rfl) rfl rfl ?_
        refine pm_R_lo pm_M177 (pc' := 7) rfl rfl rfl ?_
        refine pm_R_iald pm_M177 (pc' := 8) (v := 0) rfl (hh 46 (Nat.le_of_ble_eq_true rfl)) (Nat.le_of_ble_eq_true rfl) rfl rfl rfl ?_
        refine pm_R_op pm_M177 (pc' := 9) (st' := [.int 1, .int 0, .int 0, .int x3]) rfl rfl rfl ?_
        refine pm_R_op pm_M177 (pc' := 10) (st' := [.int (-1), .int 0, .int x3]) rfl rfl rfl ?_
        refine pm_R_cs pm_M177 (pc' := 13) (ra := [.int (-1), .int 0, .int x3]) (rest := []) (ls' := [.int x3, .int 0, .int (-1)]) rfl rfl (Or.inl rfl) pm_M174 rfl rfl (Nat.le_of_ble_eq_true rfl) rfl rfl ?_
        refine pm_R_lo pm_M174 (pc' := 1) rfl rfl rfl ?_
        refine pm_R_lo pm_M174 (pc' := 2) rfl rfl rfl ?_
        refine pm_R_icmp pm_M174 (t := 14) (pc' := 5) rfl rfl rfl (fun c_17 => ?_) (fun c_17 => by exact absurd c_16 c_17)
        refine pm_R_op pm_M174 (pc' := 15) (st' := [.int 0]) rfl rfl rfl ?_
        refine pm_R_ret pm_M174 (r := some (.int 0)) rfl rfl ?_
        show pm_R _ 177 13 [.ref 41, .int 1, .int x3] [.int 0] _ _
        refine pm_R_ret pm_M177 (r := some (.int 0)) rfl rfl ?_
        show pm_R _ 288 11 [.ref 41, .int x1, .int x2, .int x3, pm_no, pm_no, pm_no] [.int 0] _ _
        refine pm_R_br pm_M288 (pc' := 39) (st' := []) rfl rfl ?_
        refine pm_R_op pm_M288 (pc' := 40) (st' := [.int (-1)]) rfl rfl rfl ?_
        refine pm_R_ret pm_M288 (r := some (.int (-1))) rfl rfl ?_
        show pm_R _ 0 1843 [.ref 0, .ref 16, .ref 41, .int 0] [.int (-1), .int (-1)] _ _
        refine pm_R_br pm_M0 (pc' := 2121) (st' := []) (pm_q0_23 (Nat.le_of_ble_eq_true rfl)) rfl ?_
        exact p1_tail (hh 0 (Nat.le_of_ble_eq_true rfl)) (Nat.le_of_ble_eq_true rfl) (Nat.le_of_ble_eq_true rfl) (Nat.le_of_ble_eq_true rfl)
      · refine pm_R_lo pm_M66 (pc' := 5) rfl rfl rfl ?_
        refine pm_R_lo pm_M66 (pc' := 6) rfl rfl rfl ?_
        refine pm_R_get pm_M66 (pc' := 9) (v := .ref 17) rfl rfl (hh 16 (Nat.le_of_ble_eq_true rfl)) (Nat.le_of_ble_eq_true rfl) (Nat.le_of_ble_eq_true rfl) rfl rfl ?_
        refine pm_R_get pm_M66 (pc' := 12) (v := .ref 23) rfl rfl (hh 17 (Nat.le_of_ble_eq_true rfl)) (Nat.le_of_ble_eq_true rfl) (Nat.le_of_ble_eq_true rfl) rfl rfl ?_
        refine pm_R_op pm_M66 (pc' := 13) (st' := [.int 1, .ref 23, .int x3]) rfl rfl rfl ?_
        refine pm_R_iald pm_M66 (pc' := 14) (v := 0) rfl (hh 23 (Nat.le_of_ble_eq_true rfl)) (Nat.le_of_ble_eq_true rfl) rfl rfl rfl ?_
        refine pm_R_icmp pm_M66 (t := 21) (pc' := 17) rfl rfl rfl (fun c_18 => by exact absurd c_18 c_16) (fun c_18 => ?_)
        refine pm_R_op pm_M66 (pc' := 18) (st' := [.null]) rfl rfl rfl ?_
        refine pm_R_br pm_M66 (pc' := 30) rfl rfl ?_
        refine pm_R_ret pm_M66 (r := some (.null)) rfl rfl ?_
        show pm_R _ 118 19 [.ref 16, .int x1, .int x2, .int x3, .null, .null, pm_no, pm_no, pm_no, pm_no] [.null] _ _
        refine pm_R_lo pm_M118 (pc' := 21) (ls' := [.ref 16, .int x1, .int x2, .int x3, .null, .null, .null, pm_no, pm_no, pm_no]) (st' := []) rfl rfl rfl ?_
        refine pm_R_lo pm_M118 (pc' := 23) rfl rfl rfl ?_
        refine pm_R_br pm_M118 (pc' := 49) rfl rfl ?_
        refine pm_R_op pm_M118 (pc' := 50) (st' := [.int (-1)]) rfl rfl rfl ?_
        refine pm_R_ret pm_M118 (r := some (.int (-1))) rfl rfl ?_
        show pm_R _ 0 1824 [.ref 0, .ref 16, .ref 41, .int 0] [.int (-1)] _ _
        refine pm_R_lo pm_M0 (pc' := 1825) (pm_q0_23 (Nat.le_of_ble_eq_true rfl)) rfl rfl ?_
        refine pm_R_lo pm_M0 (pc' := 1826) (pm_q0_23 (Nat.le_of_ble_eq_true rfl)) rfl rfl ?_
        refine pm_R_lo pm_M0 (pc' := 1827) (pm_q0_23 (Nat.le_of_ble_eq_true rfl)) rfl rfl ?_
        refine pm_R_op pm_M0 (pc' := 1828) (st' := [.int 1, .int 0, .ref 0, .ref 41, .int (-1)]) (pm_q0_23 (Nat.le_of_ble_eq_true rfl)) rfl rfl ?_
        refine pm_R_op pm_M0 (pc' := 1829) (st' := [.int 1, .ref 0, .ref 41, .int (-1)]) (pm_q0_23 (Nat.le_of_ble_eq_true rfl)) rfl rfl ?_
        refine pm_R_iald pm_M0 (pc' := 1830) (v := x1) (pm_q0_23 (Nat.le_of_ble_eq_true rfl)) (hh 0 (Nat.le_of_ble_eq_true rfl)) (Nat.le_of_ble_eq_true rfl) rfl hx1 rfl ?_
        refine pm_R_lo pm_M0 (pc' := 1831) (pm_q0_23 (Nat.le_of_ble_eq_true rfl)) rfl rfl ?_
        refine pm_R_lo pm_M0 (pc' := 1832) (pm_q0_23 (Nat.le_of_ble_eq_true rfl)) rfl rfl ?_
        refine pm_R_op pm_M0 (pc' := 1833) (st' := [.int 2, .int 0, .ref 0, .int x1, .ref 41, .int (-1)]) (pm_q0_23 (Nat.le_of_ble_eq_true rfl)) rfl rfl ?_
        refine pm_R_op pm_M0 (pc' := 1834) (st' := [.int 2, .ref 0, .int x1, .ref 41, .int (-1)]) (pm_q0_23 (Nat.le_of_ble_eq_true rfl)) rfl rfl ?_
        refine pm_R_iald pm_M0 (pc' := 1835) (v := x2) (pm_q0_23 (Nat.le_of_ble_eq_true rfl)) (hh 0 (Nat.le_of_ble_eq_true rfl)) (Nat.le_of_ble_eq_true rfl) rfl hx2 rfl ?_
        refine pm_R_lo pm_M0 (pc' := 1836) (pm_q0_23 (Nat.le_of_ble_eq_true rfl)) rfl rfl ?_
        refine pm_R_lo pm_M0 (pc' := 1837) (pm_q0_23 (Nat.le_of_ble_eq_true rfl)) rfl rfl ?_
        refine pm_R_op pm_M0 (pc' := 1838) (st' := [.int 3, .int 0, .ref 0, .int x2, .int x1, .ref 41, .int (-1)]) (pm_q0_23 (Nat.le_of_ble_eq_true rfl)) rfl rfl ?_
        refine pm_R_op pm_M0 (pc' := 1839) (st' := [.int 3, .ref 0, .int x2, .int x1, .ref 41, .int (-1)]) (pm_q0_23 (Nat.le_of_ble_eq_true rfl)) rfl rfl ?_
        refine pm_R_iald pm_M0 (pc' := 1840) (v := x3) (pm_q0_23 (Nat.le_of_ble_eq_true rfl)) (hh 0 (Nat.le_of_ble_eq_true rfl)) (Nat.le_of_ble_eq_true rfl) rfl hx3 rfl ?_
        refine pm_R_cv pm_M0 (pc' := 1843) (a := 41) (ra := [.int x3, .int x2, .int x1]) (rest := [.int (-1)]) (ls' := [.ref 41, .int x1, .int x2, .int x3, pm_no, pm_no, pm_no]) (pm_q0_23 (Nat.le_of_ble_eq_true rfl)) rfl (Or.inl rfl) pm_M288 (hh 41 (Nat.le_of_ble_eq_true rfl)) rfl (Nat.le_of_ble_eq_true rfl) (Nat.le_of_ble_eq_true rfl) rfl rfl (Nat.le_of_ble_eq_true rfl) rfl rfl ?_
        refine pm_R_lo pm_M288 (pc' := 1) rfl rfl rfl ?_
        refine pm_R_op pm_M288 (pc' := 2) (st' := [.int 0, .ref 41]) rfl rfl rfl ?_
        refine pm_R_put pm_M288 (pc' := 5) (fs' := [.int 0, .ref 42, .ref 43, .ref 44, .ref 45, .ref 46, .ref 47, .ref 48, .ref 49, .ref 50, .int 0, .int 0, .int 0, .int 0, .int 0, .long 0, .int 0, .int 0, .int 0, .ref 51, .ref 52, .int 0, .int 0, .int 0, .int 0, .ref 53, .int 0, .int 0, .ref 54, .ref 55, .ref 56, .int 0, .ref 57, .ref 58, .ref 59, .ref 60, .ref 61, .ref 62, .ref 63, .ref 64, .ref 65, .ref 66, .int 0, .int 0, .int 0, .ref 67, .ref 68, .int 0, .ref 69, .int 0, .int 0, .ref 70, .ref 71]) rfl rfl rfl (hh 41 (Nat.le_of_ble_eq_true rfl)) (Nat.le_of_ble_eq_true rfl) (Nat.le_of_ble_eq_true rfl) (Nat.le_of_ble_eq_true rfl) rfl (Or.inl rfl) rfl rfl ?_
        refine pm_R_lo pm_M288 (pc' := 6) rfl rfl rfl ?_
        refine pm_R_op pm_M288 (pc' := 7) (st' := [.int 1, .ref 41]) rfl rfl rfl ?_
        refine pm_R_lo pm_M288 (pc' := 8) rfl rfl rfl ?_
        refine pm_R_cv pm_M288 (pc' := 11) (a := 41) (ra := [.int x3, .int 1]) (rest := []) (ls' := [.ref 41, .int 1, .int x3]) rfl rfl (Or.inl rfl) pm_M177 rfl rfl (Nat.le_of_ble_eq_true rfl) (Nat.le_of_ble_eq_true rfl) rfl rfl (Nat.le_of_ble_eq_true rfl) rfl rfl ?_
        refine pm_R_lo pm_M177 (pc' := 1) rfl rfl rfl ?_
        refine pm_R_op pm_M177 (pc' := 2) (st' := [.int 0, .int x3]) rfl rfl rfl ?_
        refine pm_R_lo pm_M177 (pc' := 3) rfl rfl rfl ?_
        refine pm_R_get pm_M177 (pc' := 6) (v := .ref 46) rfl rfl rfl (Nat.le_of_ble_eq_true rfl) (Nat.le_of_ble_eq_true rfl) rfl rfl ?_
        refine pm_R_lo pm_M177 (pc' := 7) rfl rfl rfl ?_
        refine pm_R_iald pm_M177 (pc' := 8) (v := 0) rfl (hh 46 (Nat.le_of_ble_eq_true rfl)) (Nat.le_of_ble_eq_true rfl) rfl rfl rfl ?_
        refine pm_R_op pm_M177 (pc' := 9) (st' := [.int 1, .int 0, .int 0, .int x3]) rfl rfl rfl ?_
        refine pm_R_op pm_M177 (pc' := 10) (st' := [.int (-1), .int 0, .int x3]) rfl rfl rfl ?_
        refine pm_R_cs pm_M177 (pc' := 13) (ra := [.int (-1), .int 0, .int x3]) (rest := []) (ls' := [.int x3, .int 0, .int (-1)]) rfl rfl (Or.inl rfl) pm_M174 rfl rfl (Nat.le_of_ble_eq_true rfl) rfl rfl ?_
        refine pm_R_lo pm_M174 (pc' := 1) rfl rfl rfl ?_
        refine pm_R_lo pm_M174 (pc' := 2) rfl rfl rfl ?_
        refine pm_R_icmp pm_M174 (t := 14) (pc' := 5) rfl rfl rfl (fun c_19 => by exact absurd c_19 c_16) (fun c_19 => ?_)
        refine pm_R_lo pm_M174 (pc' := 6) rfl rfl rfl ?_
        refine pm_R_lo pm_M174 (pc' := 7) rfl rfl rfl ?_
        refine pm_R_icmp pm_M174 (t := 14) (pc' := 10) rfl rfl rfl (fun c_20 => ?_) (fun c_20 => by have z0 : ((-1) : Int32).toInt = -1 := (by decide); have z1 : ((0) : Int32).toInt = 0 := (by decide); have q0 := (Int32.le_iff_toInt_le.mp (Int32.not_lt.mp c_16)); have q1 := (Int32.le_iff_toInt_le.mp (Int32.not_lt.mp c_20)); exfalso; omega)
        refine pm_R_op pm_M174 (pc' := 15) (st' := [.int 0]) rfl rfl rfl ?_
        refine pm_R_ret pm_M174 (r := some (.int 0)) rfl rfl ?_
        show pm_R _ 177 13 [.ref 41, .int 1, .int x3] [.int 0] _ _
        refine pm_R_ret pm_M177 (r := some (.int 0)) rfl rfl ?_
        show pm_R _ 288 11 [.ref 41, .int x1, .int x2, .int x3, pm_no, pm_no, pm_no] [.int 0] _ _
        refine pm_R_br pm_M288 (pc' := 39) (st' := []) rfl rfl ?_
        refine pm_R_op pm_M288 (pc' := 40) (st' := [.int (-1)]) rfl rfl rfl ?_
        refine pm_R_ret pm_M288 (r := some (.int (-1))) rfl rfl ?_
        show pm_R _ 0 1843 [.ref 0, .ref 16, .ref 41, .int 0] [.int (-1), .int (-1)] _ _
        refine pm_R_br pm_M0 (pc' := 2121) (st' := []) (pm_q0_23 (Nat.le_of_ble_eq_true rfl)) rfl ?_
        exact p1_tail (hh 0 (Nat.le_of_ble_eq_true rfl)) (Nat.le_of_ble_eq_true rfl) (Nat.le_of_ble_eq_true rfl) (Nat.le_of_ble_eq_true rfl)
    · refine pm_R_lo pm_M66 (pc' := 5) rfl rfl rfl ?_
      refine pm_R_lo pm_M66 (pc' := 6) rfl rfl rfl ?_
      refine pm_R_get pm_M66 (pc' := 9) (v := .ref 17) rfl rfl (hh 16 (Nat.le_of_ble_eq_true rfl)) (Nat.le_of_ble_eq_true rfl) (Nat.le_of_ble_eq_true rfl) rfl rfl ?_
      refine pm_R_get pm_M66 (pc' := 12) (v := .ref 23) rfl rfl (hh 17 (Nat.le_of_ble_eq_true rfl)) (Nat.le_of_ble_eq_true rfl) (Nat.le_of_ble_eq_true rfl) rfl rfl ?_
      refine pm_R_op pm_M66 (pc' := 13) (st' := [.int 1, .ref 23, .int x2]) rfl rfl rfl ?_
      refine pm_R_iald pm_M66 (pc' := 14) (v := 0) rfl (hh 23 (Nat.le_of_ble_eq_true rfl)) (Nat.le_of_ble_eq_true rfl) rfl rfl rfl ?_
      refine pm_R_icmp pm_M66 (t := 21) (pc' := 17) rfl rfl rfl (fun c_21 => by exact absurd c_21 c_15) (fun c_21 => ?_)
      refine pm_R_op pm_M66 (pc' := 18) (st' := [.null]) rfl rfl rfl ?_
      refine pm_R_br pm_M66 (pc' := 30) rfl rfl ?_
      refine pm_R_ret pm_M66 (r := some (.null)) rfl rfl ?_
      show pm_R _ 118 12 [.ref 16, .int x1, .int x2, .int x3, .null, pm_no, pm_no, pm_no, pm_no, pm_no] [.null] _ _
      refine pm_R_lo pm_M118 (pc' := 14) (ls' := [.ref 16, .int x1, .int x2, .int x3, .null, .null, pm_no, pm_no, pm_no, pm_no]) (st' := []) rfl rfl rfl ?_
      refine pm_R_lo pm_M118 (pc' := 15) rfl rfl rfl ?_
      refine pm_R_lo pm_M118 (pc' := 16) rfl rfl rfl ?_
      refine pm_R_cv pm_M118 (pc' := 19) (a := 16) (ra := [.int x3]) (rest := []) (ls' := [.ref 16, .int x3]) rfl rfl (Or.inl rfl) pm_M66 (hh 16 (Nat.le_of_ble_eq_true rfl)) rfl (Nat.le_of_ble_eq_true rfl) (Nat.le_of_ble_eq_true rfl) rfl rfl (Nat.le_of_ble_eq_true rfl) rfl rfl ?_
      refine pm_R_lo pm_M66 (pc' := 1) rfl rfl rfl ?_
      refine pm_R_ifc pm_M66 (t := 17) (pc' := 4) rfl rfl rfl (fun c_22 => ?_) (fun c_22 => ?_)
      · refine pm_R_op pm_M66 (pc' := 18) (st' := [.null]) rfl rfl rfl ?_
        refine pm_R_br pm_M66 (pc' := 30) rfl rfl ?_
        refine pm_R_ret pm_M66 (r := some (.null)) rfl rfl ?_
        show pm_R _ 118 19 [.ref 16, .int x1, .int x2, .int x3, .null, .null, pm_no, pm_no, pm_no, pm_no] [.null] _ _
        refine pm_R_lo pm_M118 (pc' := 21) (ls' := [.ref 16, .int x1, .int x2, .int x3, .null, .null, .null, pm_no, pm_no, pm_no]) (st' := []) rfl rfl rfl ?_
        refine pm_R_lo pm_M118 (pc' := 23) rfl rfl rfl ?_
        refine pm_R_br pm_M118 (pc' := 49) rfl rfl ?_
        refine pm_R_op pm_M118 (pc' := 50) (st' := [.int (-1)]) rfl rfl rfl ?_
        refine pm_R_ret pm_M118 (r := some (.int (-1))) rfl rfl ?_
        show pm_R _ 0 1824 [.ref 0, .ref 16, .ref 41, .int 0] [.int (-1)] _ _
        refine pm_R_lo pm_M0 (pc' := 1825) (pm_q0_23 (Nat.le_of_ble_eq_true rfl)) rfl rfl ?_
        refine pm_R_lo pm_M0 (pc' := 1826) (pm_q0_23 (Nat.le_of_ble_eq_true rfl)) rfl rfl ?_
        refine pm_R_lo pm_M0 (pc' := 1827) (pm_q0_23 (Nat.le_of_ble_eq_true rfl)) rfl rfl ?_
        refine pm_R_op pm_M0 (pc' := 1828) (st' := [.int 1, .int 0, .ref 0, .ref 41, .int (-1)]) (pm_q0_23 (Nat.le_of_ble_eq_true rfl)) rfl rfl ?_
        refine pm_R_op pm_M0 (pc' := 1829) (st' := [.int 1, .ref 0, .ref 41, .int (-1)]) (pm_q0_23 (Nat.le_of_ble_eq_true rfl)) rfl rfl ?_
        refine pm_R_iald pm_M0 (pc' := 1830) (v := x1) (pm_q0_23 (Nat.le_of_ble_eq_true rfl)) (hh 0 (Nat.le_of_ble_eq_true rfl)) (Nat.le_of_ble_eq_true rfl) rfl hx1 rfl ?_
        refine pm_R_lo pm_M0 (pc' := 1831) (pm_q0_23 (Nat.le_of_ble_eq_true rfl)) rfl rfl ?_
        refine pm_R_lo pm_M0 (pc' := 1832) (pm_q0_23 (Nat.le_of_ble_eq_true rfl)) rfl rfl ?_
        refine pm_R_op pm_M0 (pc' := 1833) (st' := [.int 2, .int 0, .ref 0, .int x1, .ref 41, .int (-1)]) (pm_q0_23 (Nat.le_of_ble_eq_true rfl)) rfl rfl ?_
        refine pm_R_op pm_M0 (pc' := 1834) (st' := [.int 2, .ref 0, .int x1, .ref 41, .int (-1)]) (pm_q0_23 (Nat.le_of_ble_eq_true rfl)) rfl rfl ?_
        refine pm_R_iald pm_M0 (pc' := 1835) (v := x2) (pm_q0_23 (Nat.le_of_ble_eq_true rfl)) (hh 0 (Nat.le_of_ble_eq_true rfl)) (Nat.le_of_ble_eq_true rfl) rfl hx2 rfl ?_
        refine pm_R_lo pm_M0 (pc' := 1836) (pm_q0_23 (Nat.le_of_ble_eq_true rfl)) rfl rfl ?_
        refine pm_R_lo pm_M0 (pc' := 1837) (pm_q0_23 (Nat.le_of_ble_eq_true rfl)) rfl rfl ?_
        refine pm_R_op pm_M0 (pc' := 1838) (st' := [.int 3, .int 0, .ref 0, .int x2, .int x1, .ref 41, .int (-1)]) (pm_q0_23 (Nat.le_of_ble_eq_true rfl)) rfl rfl ?_
        refine pm_R_op pm_M0 (pc' := 1839) (st' := [.int 3, .ref 0, .int x2, .int x1, .ref 41, .int (-1)]) (pm_q0_23 (Nat.le_of_ble_eq_true rfl)) rfl rfl ?_
        refine pm_R_iald pm_M0 (pc' := 1840) (v := x3) (pm_q0_23 (Nat.le_of_ble_eq_true rfl)) (hh 0 (Nat.le_of_ble_eq_true rfl)) (Nat.le_of_ble_eq_true rfl) rfl hx3 rfl ?_
        refine pm_R_cv pm_M0 (pc' := 1843) (a := 41) (ra := [.int x3, .int x2, .int x1]) (rest := [.int (-1)]) (ls' := [.ref 41, .int x1, .int x2, .int x3, pm_no, pm_no, pm_no]) (pm_q0_23 (Nat.le_of_ble_eq_true rfl)) rfl (Or.inl rfl) pm_M288 (hh 41 (Nat.le_of_ble_eq_true rfl)) rfl (Nat.le_of_ble_eq_true rfl) (Nat.le_of_ble_eq_true rfl) rfl rfl (Nat.le_of_ble_eq_true rfl) rfl rfl ?_
        refine pm_R_lo pm_M288 (pc' := 1) rfl rfl rfl ?_
        refine pm_R_op pm_M288 (pc' := 2) (st' := [.int 0, .ref 41]) rfl rfl rfl ?_
        refine pm_R_put pm_M288 (pc' := 5) (fs' := [.int 0, .ref 42, .ref 43, .ref 44, .ref 45, .ref 46, .ref 47, .ref 48, .ref 49, .ref 50, .int 0, .int 0, .int 0, .int 0, .int 0, .long 0, .int 0, .int 0, .int 0, .ref 51, .ref 52, .int 0, .int 0, .int 0, .int 0, .ref 53, .int 0, .int 0, .ref 54, .ref 55, .ref 56, .int 0, .ref 57, .ref 58, .ref 59, .ref 60, .ref 61, .ref 62, .ref 63, .ref 64, .ref 65, .ref 66, .int 0, .int 0, .int 0, .ref 67, .ref 68, .int 0, .ref 69, .int 0, .int 0, .ref 70, .ref 71]) rfl rfl rfl (hh 41 (Nat.le_of_ble_eq_true rfl)) (Nat.le_of_ble_eq_true rfl) (Nat.le_of_ble_eq_true rfl) (Nat.le_of_ble_eq_true rfl) rfl (Or.inl rfl) rfl rfl ?_
        refine pm_R_lo pm_M288 (pc' := 6) rfl rfl rfl ?_
        refine pm_R_op pm_M288 (pc' := 7) (st' := [.int 1, .ref 41]) rfl rfl rfl ?_
        refine pm_R_lo pm_M288 (pc' := 8) rfl rfl rfl ?_
        refine pm_R_cv pm_M288 (pc' := 11) (a := 41) (ra := [.int x3, .int 1]) (rest := []) (ls' := [.ref 41, .int 1, .int x3]) rfl rfl (Or.inl rfl) pm_M177 rfl rfl (Nat.le_of_ble_eq_true rfl) (Nat.le_of_ble_eq_true rfl) rfl rfl (Nat.le_of_ble_eq_true rfl) rfl rfl ?_
        refine pm_R_lo pm_M177 (pc' := 1) rfl rfl rfl ?_
        refine pm_R_op pm_M177 (pc' := 2) (st' := [.int 0, .int x3]) rfl rfl rfl ?_
        refine pm_R_lo pm_M177 (pc' := 3) rfl rfl rfl ?_
        refine pm_R_get pm_M177 (pc' := 6) (v := .ref 46) rfl rfl rfl (Nat.le_of_ble_eq_true rfl) (Nat.le_of_ble_eq_true rfl) rfl rfl ?_
        refine pm_R_lo pm_M177 (pc' := 7) rfl rfl rfl ?_
        refine pm_R_iald pm_M177 (pc' := 8) (v := 0) rfl (hh 46 (Nat.le_of_ble_eq_true rfl)) (Nat.le_of_ble_eq_true rfl) rfl rfl rfl ?_
        refine pm_R_op pm_M177 (pc' := 9) (st' := [.int 1, .int 0, .int 0, .int x3]) rfl rfl rfl ?_
        refine pm_R_op pm_M177 (pc' := 10) (st' := [.int (-1), .int 0, .int x3]) rfl rfl rfl ?_
        refine pm_R_cs pm_M177 (pc' := 13) (ra := [.int (-1), .int 0, .int x3]) (rest := []) (ls' := [.int x3, .int 0, .int (-1)]) rfl rfl (Or.inl rfl) pm_M174 rfl rfl (Nat.le_of_ble_eq_true rfl) rfl rfl ?_
        refine pm_R_lo pm_M174 (pc' := 1) rfl rfl rfl ?_
        refine pm_R_lo pm_M174 (pc' := 2) rfl rfl rfl ?_
        refine pm_R_icmp pm_M174 (t := 14) (pc' := 5) rfl rfl rfl (fun c_23 => ?_) (fun c_23 => by exact absurd c_22 c_23)
        refine pm_R_op pm_M174 (pc' := 15) (st' := [.int 0]) rfl rfl rfl ?_
        refine pm_R_ret pm_M174 (r := some (.int 0)) rfl rfl ?_
        show pm_R _ 177 13 [.ref 41, .int 1, .int x3] [.int 0] _ _
        refine pm_R_ret pm_M177 (r := some (.int 0)) rfl rfl ?_
        show pm_R _ 288 11 [.ref 41, .int x1, .int x2, .int x3, pm_no, pm_no, pm_no] [.int 0] _ _
        refine pm_R_br pm_M288 (pc' := 39) (st' := []) rfl rfl ?_
        refine pm_R_op pm_M288 (pc' := 40) (st' := [.int (-1)]) rfl rfl rfl ?_
        refine pm_R_ret pm_M288 (r := some (.int (-1))) rfl rfl ?_
        show pm_R _ 0 1843 [.ref 0, .ref 16, .ref 41, .int 0] [.int (-1), .int (-1)] _ _
        refine pm_R_br pm_M0 (pc' := 2121) (st' := []) (pm_q0_23 (Nat.le_of_ble_eq_true rfl)) rfl ?_
        exact p1_tail (hh 0 (Nat.le_of_ble_eq_true rfl)) (Nat.le_of_ble_eq_true rfl) (Nat.le_of_ble_eq_true rfl) (Nat.le_of_ble_eq_true rfl)
      · refine pm_R_lo pm_M66 (pc' := 5) rfl rfl rfl ?_
        refine pm_R_lo pm_M66 (pc' := 6) rfl rfl rfl ?_
        refine pm_R_get pm_M66 (pc' := 9) (v := .ref 17) rfl rfl (hh 16 (Nat.le_of_ble_eq_true rfl)) (Nat.le_of_ble_eq_true rfl) (Nat.le_of_ble_eq_true rfl) rfl rfl ?_
        refine pm_R_get pm_M66 (pc' := 12) (v := .ref 23) rfl rfl (hh 17 (Nat.le_of_ble_eq_true rfl)) (Nat.le_of_ble_eq_true rfl) (Nat.le_of_ble_eq_true rfl) rfl rfl ?_
        refine pm_R_op pm_M66 (pc' := 13) (st' := [.int 1, .ref 23, .int x3]) rfl rfl rfl ?_
        refine pm_R_iald pm_M66 (pc' := 14) (v := 0) rfl (hh 23 (Nat.le_of_ble_eq_true rfl)) (Nat.le_of_ble_eq_true rfl) rfl rfl rfl ?_
        refine pm_R_icmp pm_M66 (t := 21) (pc' := 17) rfl rfl rfl (fun c_24 => by exact absurd c_24 c_22) (fun c_24 => ?_)
        refine pm_R_op pm_M66 (pc' := 18) (st' := [.null]) rfl rfl rfl ?_
        refine pm_R_br pm_M66 (pc' := 30) rfl rfl ?_
        refine pm_R_ret pm_M66 (r := some (.null)) rfl rfl ?_
        show pm_R _ 118 19 [.ref 16, .int x1, .int x2, .int x3, .null, .null, pm_no, pm_no, pm_no, pm_no] [.null] _ _
        refine pm_R_lo pm_M118 (pc' := 21) (ls' := [.ref 16, .int x1, .int x2, .int x3, .null, .null, .null, pm_no, pm_no, pm_no]) (st' := []) rfl rfl rfl ?_
        refine pm_R_lo pm_M118 (pc' := 23) rfl rfl rfl ?_
        refine pm_R_br pm_M118 (pc' := 49) rfl rfl ?_
        refine pm_R_op pm_M118 (pc' := 50) (st' := [.int (-1)]) rfl rfl rfl ?_
        refine pm_R_ret pm_M118 (r := some (.int (-1))) rfl rfl ?_
        show pm_R _ 0 1824 [.ref 0, .ref 16, .ref 41, .int 0] [.int (-1)] _ _
        refine pm_R_lo pm_M0 (pc' := 1825) (pm_q0_23 (Nat.le_of_ble_eq_true rfl)) rfl rfl ?_
        refine pm_R_lo pm_M0 (pc' := 1826) (pm_q0_23 (Nat.le_of_ble_eq_true rfl)) rfl rfl ?_
        refine pm_R_lo pm_M0 (pc' := 1827) (pm_q0_23 (Nat.le_of_ble_eq_true rfl)) rfl rfl ?_
        refine pm_R_op pm_M0 (pc' := 1828) (st' := [.int 1, .int 0, .ref 0, .ref 41, .int (-1)]) (pm_q0_23 (Nat.le_of_ble_eq_true rfl)) rfl rfl ?_
        refine pm_R_op pm_M0 (pc' := 1829) (st' := [.int 1, .ref 0, .ref 41, .int (-1)]) (pm_q0_23 (Nat.le_of_ble_eq_true rfl)) rfl rfl ?_
        refine pm_R_iald pm_M0 (pc' := 1830) (v := x1) (pm_q0_23 (Nat.le_of_ble_eq_true rfl)) (hh 0 (Nat.le_of_ble_eq_true rfl)) (Nat.le_of_ble_eq_true rfl) rfl hx1 rfl ?_
        refine pm_R_lo pm_M0 (pc' := 1831) (pm_q0_23 (Nat.le_of_ble_eq_true rfl)) rfl rfl ?_
        refine pm_R_lo pm_M0 (pc' := 1832) (pm_q0_23 (Nat.le_of_ble_eq_true rfl)) rfl rfl ?_
        refine pm_R_op pm_M0 (pc' := 1833) (st' := [.int 2, .int 0, .ref 0, .int x1, .ref 41, .int (-1)]) (pm_q0_23 (Nat.le_of_ble_eq_true rfl)) rfl rfl ?_
        refine pm_R_op pm_M0 (pc' := 1834) (st' := [.int 2, .ref 0, .int x1, .ref 41, .int (-1)]) (pm_q0_23 (Nat.le_of_ble_eq_true rfl)) rfl rfl ?_
        refine pm_R_iald pm_M0 (pc' := 1835) (v := x2) (pm_q0_23 (Nat.le_of_ble_eq_true rfl)) (hh 0 (Nat.le_of_ble_eq_true rfl)) (Nat.le_of_ble_eq_true rfl) rfl hx2 rfl ?_
        refine pm_R_lo pm_M0 (pc' := 1836) (pm_q0_23 (Nat.le_of_ble_eq_true rfl)) rfl rfl ?_
        refine pm_R_lo pm_M0 (pc' := 1837) (pm_q0_23 (Nat.le_of_ble_eq_true rfl)) rfl rfl ?_
        refine pm_R_op pm_M0 (pc' := 1838) (st' := [.int 3, .int 0, .ref 0, .int x2, .int x1, .ref 41, .int (-1)]) (pm_q0_23 (Nat.le_of_ble_eq_true rfl)) rfl rfl ?_
        refine pm_R_op pm_M0 (pc' := 1839) (st' := [.int 3, .ref 0, .int x2, .int x1, .ref 41, .int (-1)]) (pm_q0_23 (Nat.le_of_ble_eq_true rfl)) rfl rfl ?_
        refine pm_R_iald pm_M0 (pc' := 1840) (v := x3) (pm_q0_23 (Nat.le_of_ble_eq_true rfl)) (hh 0 (Nat.le_of_ble_eq_true rfl)) (Nat.le_of_ble_eq_true rfl) rfl hx3 rfl ?_
        refine pm_R_cv pm_M0 (pc' := 1843) (a := 41) (ra := [.int x3, .int x2, .int x1]) (rest := [.int (-1)]) (ls' := [.ref 41, .int x1, .int x2, .int x3, pm_no, pm_no, pm_no]) (pm_q0_23 (Nat.le_of_ble_eq_true rfl)) rfl (Or.inl rfl) pm_M288 (hh 41 (Nat.le_of_ble_eq_true rfl)) rfl (Nat.le_of_ble_eq_true rfl) (Nat.le_of_ble_eq_true rfl) rfl rfl (Nat.le_of_ble_eq_true rfl) rfl rfl ?_
        refine pm_R_lo pm_M288 (pc' := 1) rfl rfl rfl ?_
        refine pm_R_op pm_M288 (pc' := 2) (st' := [.int 0, .ref 41]) rfl rfl rfl ?_
        refine pm_R_put pm_M288 (pc' := 5) (fs' := [.int 0, .ref 42, .ref 43, .ref 44, .ref 45, .ref 46, .ref 47, .ref 48, .ref 49, .ref 50, .int 0, .int 0, .int 0, .int 0, .int 0, .long 0, .int 0, .int 0, .int 0, .ref 51, .ref 52, .int 0, .int 0, .int 0, .int 0, .ref 53, .int 0, .int 0, .ref 54, .ref 55, .ref 56, .int 0, .ref 57, .ref 58, .ref 59, .ref 60, .ref 61, .ref 62, .ref 63, .ref 64, .ref 65, .ref 66, .int 0, .int 0, .int 0, .ref 67, .ref 68, .int 0, .ref 69, .int 0, .int 0, .ref 70, .ref 71]) rfl rfl rfl (hh 41 (Nat.le_of_ble_eq_true rfl)) (Nat.le_of_ble_eq_true rfl) (Nat.le_of_ble_eq_true rfl) (Nat.le_of_ble_eq_true rfl) rfl (Or.inl rfl) rfl rfl ?_
        refine pm_R_lo pm_M288 (pc' := 6) rfl rfl rfl ?_
        refine pm_R_op pm_M288 (pc' := 7) (st' := [.int 1, .ref 41]) rfl rfl rfl ?_
        refine pm_R_lo pm_M288 (pc' := 8) rfl rfl rfl ?_
        refine pm_R_cv pm_M288 (pc' := 11) (a := 41) (ra := [.int x3, .int 1]) (rest := []) (ls' := [.ref 41, .int 1, .int x3]) rfl rfl (Or.inl rfl) pm_M177 rfl rfl (Nat.le_of_ble_eq_true rfl) (Nat.le_of_ble_eq_true rfl) rfl rfl (Nat.le_of_ble_eq_true rfl) rfl rfl ?_
        refine pm_R_lo pm_M177 (pc' := 1) rfl rfl rfl ?_
        refine pm_R_op pm_M177 (pc' := 2) (st' := [.int 0, .int x3]) rfl rfl rfl ?_
        refine pm_R_lo pm_M177 (pc' := 3) rfl rfl rfl ?_
        refine pm_R_get pm_M177 (pc' := 6) (v := .ref 46) rfl rfl rfl (Nat.le_of_ble_eq_true rfl) (Nat.le_of_ble_eq_true rfl) rfl rfl ?_
        refine pm_R_lo pm_M177 (pc' := 7) rfl rfl rfl ?_
        refine pm_R_iald pm_M177 (pc' := 8) (v := 0) rfl (hh 46 (Nat.le_of_ble_eq_true rfl)) (Nat.le_of_ble_eq_true rfl) rfl rfl rfl ?_
        refine pm_R_op pm_M177 (pc' := 9) (st' := [.int 1, .int 0, .int 0, .int x3]) rfl rfl rfl ?_
        refine pm_R_op pm_M177 (pc' := 10) (st' := [.int (-1), .int 0, .int x3]) rfl rfl rfl ?_
        refine pm_R_cs pm_M177 (pc' := 13) (ra := [.int (-1), .int 0, .int x3]) (rest := []) (ls' := [.int x3, .int 0, .int (-1)]) rfl rfl (Or.inl rfl) pm_M174 rfl rfl (Nat.le_of_ble_eq_true rfl) rfl rfl ?_
        refine pm_R_lo pm_M174 (pc' := 1) rfl rfl rfl ?_
        refine pm_R_lo pm_M174 (pc' := 2) rfl rfl rfl ?_
        refine pm_R_icmp pm_M174 (t := 14) (pc' := 5) rfl rfl rfl (fun c_25 => by exact absurd c_25 c_22) (fun c_25 => ?_)
        refine pm_R_lo pm_M174 (pc' := 6) rfl rfl rfl ?_
        refine pm_R_lo pm_M174 (pc' := 7) rfl rfl rfl ?_
        refine pm_R_icmp pm_M174 (t := 14) (pc' := 10) rfl rfl rfl (fun c_26 => ?_) (fun c_26 => by have z0 : ((-1) : Int32).toInt = -1 := (by decide); have z1 : ((0) : Int32).toInt = 0 := (by decide); have q0 := (Int32.le_iff_toInt_le.mp (Int32.not_lt.mp c_22)); have q1 := (Int32.le_iff_toInt_le.mp (Int32.not_lt.mp c_26)); exfalso; omega)
        refine pm_R_op pm_M174 (pc' := 15) (st' := [.int 0]) rfl rfl rfl ?_
        refine pm_R_ret pm_M174 (r := some (.int 0)) rfl rfl ?_
        show pm_R _ 177 13 [.ref 41, .int 1, .int x3] [.int 0] _ _
        refine pm_R_ret pm_M177 (r := some (.int 0)) rfl rfl ?_
        show pm_R _ 288 11 [.ref 41, .int x1, .int x2, .int x3, pm_no, pm_no, pm_no] [.int 0] _ _
        refine pm_R_br pm_M288 (pc' := 39) (st' := []) rfl rfl ?_
        refine pm_R_op pm_M288 (pc' := 40) (st' := [.int (-1)]) rfl rfl rfl ?_
        refine pm_R_ret pm_M288 (r := some (.int (-1))) rfl rfl ?_
        show pm_R _ 0 1843 [.ref 0, .ref 16, .ref 41, .int 0] [.int (-1), .int (-1)] _ _
        refine pm_R_br pm_M0 (pc' := 2121) (st' := []) (pm_q0_23 (Nat.le_of_ble_eq_true rfl)) rfl ?_
        exact p1_tail (hh 0 (Nat.le_of_ble_eq_true rfl)) (Nat.le_of_ble_eq_true rfl) (Nat.le_of_ble_eq_true rfl) (Nat.le_of_ble_eq_true rfl)
set_option maxRecDepth 100000 in
set_option maxHeartbeats 40000000 in
theorem p1_c36 (xs : Nat → Int32) (f : Nat → pm_E) (hh : ∀ i, i < 72 → f i = pm_fF 7 xs i) (x0 x1 x2 x3 x4 x5 x6 : Int32) (hx0 : xs 0 = x0) (hx1 : xs 1 = x1) (hx2 : xs 2 = x2) (hx3 : xs 3 = x3) (hx4 : xs 4 = x4) (hx5 : xs 5 = x5) (hx6 : xs 6 = x6) : pm_R 100 0 1848 [.ref 0, .ref 16, .ref 41, .int 0] [] (72, 52657, f) p1_Q := by
  refine pm_R_lo pm_M0 (pc' := 1849) (pm_q0_23 (Nat.le_of_ble_eq_true rfl)) rfl rfl ?_
  refine pm_R_lo pm_M0 (pc' := 1850) (pm_q0_23 (Nat.le_of_ble_eq_true rfl)) rfl rfl ?_
  refine pm_R_lo pm_M0 (pc' := 1851) (pm_q0_23 (Nat.le_of_ble_eq_true rfl)) rfl rfl ?_
  refine pm_R_op pm_M0 (pc' := 1852) (st' := [.int 1, .int 0, .ref 0, .ref 16]) (pm_q0_23 (Nat.le_of_ble_eq_true rfl)) rfl rfl ?_
  refine pm_R_op pm_M0 (pc' := 1853) (st' := [.int 1, .ref 0, .ref 16]) (pm_q0_23 (Nat.le_of_ble_eq_true rfl)) rfl rfl ?_
  refine pm_R_iald pm_M0 (pc' := 1854) (v := x1) (pm_q0_23 (Nat.le_of_ble_eq_true rfl)) (hh 0 (Nat.le_of_ble_eq_true rfl)) (Nat.le_of_ble_eq_true rfl) rfl hx1 rfl ?_
  refine pm_R_lo pm_M0 (pc' := 1855) (pm_q0_23 (Nat.le_of_ble_eq_true rfl)) rfl rfl ?_
  refine pm_R_lo pm_M0 (pc' := 1856) (pm_q0_23 (Nat.le_of_ble_eq_true rfl)) rfl rfl ?_
  refine pm_R_op pm_M0 (pc' := 1857) (st' := [.int 2, .int 0, .ref 0, .int x1, .ref 16]) (pm_q0_23 (Nat.le_of_ble_eq_true rfl)) rfl rfl ?_
  refine pm_R_op pm_M0 (pc' := 1858) (st' := [.int 2, .ref 0, .int x1, .ref 16]) (pm_q0_23 (Nat.le_of_ble_eq_true rfl)) rfl rfl ?_
  refine pm_R_iald pm_M0 (pc' := 1859) (v := x2) (pm_q0_23 (Nat.le_of_ble_eq_true rfl)) (hh 0 (Nat.le_of_ble_eq_true rfl)) (Nat.le_of_ble_eq_true rfl) rfl hx2 rfl ?_
  refine pm_R_lo pm_M0 (pc' := 1860) (pm_q0_23 (Nat.le_of_ble_eq_true rfl)) rfl rfl ?_
  refine pm_R_lo pm_M0 (pc' := 1861) (pm_q0_23 (Nat.le_of_ble_eq_true rfl)) rfl rfl ?_
  refine pm_R_op pm_M0 (pc' := 1862) (st' := [.int 3, .int 0, .ref 0, .int x2, .int x1, .ref 16]) (pm_q0_23 (Nat.le_of_ble_eq_true rfl)) rfl rfl ?_
  refine pm_R_op pm_M0 (pc' := 1863) (st' := [.int 3, .ref 0, .int x2, .int x1, .ref 16]) (pm_q0_23 (Nat.le_of_ble_eq_true rfl)) rfl rfl ?_
  refine pm_R_iald pm_M0 (pc' := 1864) (v := x3) (pm_q0_23 (Nat.le_of_ble_eq_true rfl)) (hh 0 (Nat.le_of_ble_eq_true rfl)) (Nat.le_of_ble_eq_true rfl) rfl hx3 rfl ?_
  refine pm_R_lo pm_M0 (pc' := 1865) (pm_q0_23 (Nat.le_of_ble_eq_true rfl)) rfl rfl ?_
  refine pm_R_lo pm_M0 (pc' := 1866) (pm_q0_23 (Nat.le_of_ble_eq_true rfl)) rfl rfl ?_
  refine pm_R_op pm_M0 (pc' := 1867) (st' := [.int 4, .int 0, .ref 0, .int x3, .int x2, .int x1, .ref 16]) (pm_q0_23 (Nat.le_of_ble_eq_true rfl)) rfl rfl ?_
  refine pm_R_op pm_M0 (pc' := 1868) (st' := [.int 4, .ref 0, .int x3, .int x2, .int x1, .ref 16]) (pm_q0_23 (Nat.le_of_ble_eq_true rfl)) rfl rfl ?_
  refine pm_R_iald pm_M0 (pc' := 1869) (v := x4) (pm_q0_24 (Nat.le_of_ble_eq_true rfl)) (hh 0 (Nat.le_of_ble_eq_true rfl)) (Nat.le_of_ble_eq_true rfl) rfl hx4 rfl ?_
  refine pm_R_cv pm_M0 (pc' := 1872) (a := 16) (ra := [.int x4, .int x3, .int x2, .int x1]) (rest := []) (ls' := [.ref 16, .int x1, .int x2, .int x3, .int x4, pm_no, pm_no, pm_no, pm_no]) (pm_q0_24 (Nat.le_of_ble_eq_true rfl)) rfl (Or.inl rfl) pm_M80 (hh 16 (Nat.le_of_ble_eq_true rfl)) rfl (Nat.le_of_ble_eq_true rfl) (Nat.le_of_ble_eq_true rfl) rfl rfl (Nat.le_of_ble_eq_true rfl) rfl rfl ?_
  refine pm_R_lo pm_M80 (pc' := 1) rfl rfl rfl ?_
  refine pm_R_lo pm_M80 (pc' := 2) rfl rfl rfl ?_
  refine pm_R_cv pm_M80 (pc' := 5) (a := 16) (ra := [.int x1]) (rest := []) (ls' := [.ref 16, .int x1]) rfl rfl (Or.inl rfl) pm_M62 (hh 16 (Nat.le_of_ble_eq_true rfl)) rfl (Nat.le_of_ble_eq_true rfl) (Nat.le_of_ble_eq_true rfl) rfl rfl (Nat.le_of_ble_eq_true rfl) rfl rfl ?_
  refine pm_R_lo pm_M62 (pc' := 1) rfl rfl rfl ?_
  refine pm_R_ifc pm_M62 (t := 17) (pc' := 4) rfl rfl rfl (fun c_1 => ?_) (fun c_1 => ?_)
  · refine pm_R_op pm_M62 (pc' := 18) (st' := [.null]) rfl rfl rfl ?_
    refine pm_R_br pm_M62 (pc' := 30) rfl rfl ?_
    refine pm_R_ret pm_M62 (r := some (.null)) rfl rfl ?_
    show pm_R _ 80 5 [.ref 16, .int x1, .int x2, .int x3, .int x4, pm_no, pm_no, pm_no, pm_no] [.null] _ _
    refine pm_R_lo pm_M80 (pc' := 7) (ls' := [.ref 16, .int x1, .int x2, .int x3, .int x4, .null, pm_no, pm_no, pm_no]) (st' := []) rfl rfl rfl ?_
    refine pm_R_lo pm_M80 (pc' := 8) rfl rfl rfl ?_
    refine pm_R_lo pm_M80 (pc' := 9) rfl rfl rfl ?_
    refine pm_R_cv pm_M80 (pc' := 12) (a := 16) (ra := [.int x2]) (rest := []) (ls' := [.ref 16, .int x2]) rfl rfl (Or.inl rfl) pm_M66 (hh 16 (Nat.le_of_ble_eq_true rfl)) rfl (Nat.le_of_ble_eq_true rfl) (Nat.le_of_ble_eq_true rfl) rfl rfl (Nat.le_of_ble_eq_true rfl) rfl rfl ?_
    refine pm_R_lo pm_M66 (pc' := 1) rfl rfl rfl ?_
    refine pm_R_ifc pm_M66 (t := 17) (pc' := 4) rfl rfl rfl (fun c_2 => ?_) (fun c_2 => ?_)
    · refine pm_R_op pm_M66 (pc' := 18) (st' := [.null]) rfl rfl rfl ?_
      refine pm_R_br pm_M66 (pc' := 30) rfl rfl ?_
      refine pm_R_ret pm_M66 (r := some (.null)) rfl rfl ?_
      show pm_R _ 80 12 [.ref 16, .int x1, .int x2, .int x3, .int x4, .null, pm_no, pm_no, pm_no] [.null] _ _
      refine pm_R_lo pm_M80 (pc' := 14) (ls' := [.ref 16, .int x1, .int x2, .int x3, .int x4, .null, .null, pm_no, pm_no]) (st' := []) rfl rfl rfl ?_
      refine pm_R_lo pm_M80 (pc' := 16) rfl rfl rfl ?_
      refine pm_R_br pm_M80 (pc' := 35) rfl rfl ?_
      refine pm_R_op pm_M80 (pc' := 36) (st' := [.int (-1)]) rfl rfl rfl ?_
      refine pm_R_ret pm_M80 (r := some (.int (-1))) rfl rfl ?_
      show pm_R _ 0 1872 [.ref 0, .ref 16, .ref 41, .int 0] [.int (-1)] _ _
      refine pm_R_lo pm_M0 (pc' := 1873) (pm_q0_24 (Nat.le_of_ble_eq_true rfl)) rfl rfl ?_
      refine pm_R_lo pm_M0 (pc' := 1874) (pm_q0_24 (Nat.le_of_ble_eq_true rfl)) rfl rfl ?_
      refine pm_R_lo pm_M0 (pc' := 1875) (pm_q0_24 (Nat.le_of_ble_eq_true rfl)) rfl rfl ?_
      refine pm_R_op pm_M0 (pc' := 1876) (st' := [.int 1, .int 0, .ref 0, .ref 41, .int (-1)]) (pm_q0_24 (Nat.le_of_ble_eq_true rfl)) rfl rfl ?_
      refine pm_R_op pm_M0 (pc' := 1877) (st' := [.int 1, .ref 0, .ref 41, .int (-1)]) (pm_q0_24 (Nat.le_of_ble_eq_true rfl)) rfl rfl ?_
      refine pm_R_iald pm_M0 (pc' := 1878) (v := x1) (pm_q0_24 (Nat.le_of_ble_eq_true rfl)) (hh 0 (Nat.le_of_ble_eq_true rfl)) (Nat.le_of_ble_eq_true rfl) rfl hx1 rfl ?_
      refine pm_R_lo pm_M0 (pc' := 1879) (pm_q0_24 (Nat.le_of_ble_eq_true rfl)) rfl rfl ?_
      refine pm_R_lo pm_M0 (pc' := 1880) (pm_q0_24 (Nat.le_of_ble_eq_true rfl)) rfl rfl ?_
      refine pm_R_op pm_M0 (pc' := 1881) (st' := [.int 2, .int 0, .ref 0, .int x1, .ref 41, .int (-1)]) (pm_q0_24 (Nat.le_of_ble_eq_true rfl)) rfl rfl ?_
      refine pm_R_op pm_M0 (pc' := 1882) (st' := [.int 2, .ref 0, .int x1, .ref 41, .int (-1)]) (pm_q0_24 (Nat.le_of_ble_eq_true rfl)) rfl rfl ?_
      refine pm_R_iald pm_M0 (pc' := 1883) (v := x2) (pm_q0_24 (Nat.le_of_ble_eq_true rfl)) (hh 0 (Nat.le_of_ble_eq_true rfl)) (Nat.le_of_ble_eq_true rfl) rfl hx2 rfl ?_
      refine pm_R_lo pm_M0 (pc' := 1884) (pm_q0_24 (Nat.le_of_ble_eq_true rfl)) rfl rfl ?_
      refine pm_R_lo pm_M0 (pc' := 1885) (pm_q0_24 (Nat.le_of_ble_eq_true rfl)) rfl rfl ?_
      refine pm_R_op pm_M0 (pc' := 1886) (st' := [.int 3, .int 0, .ref 0, .int x2, .int x1, .ref 41, .int (-1)]) (pm_q0_24 (Nat.le_of_ble_eq_true rfl)) rfl rfl ?_
      refine pm_R_op pm_M0 (pc' := 1887) (st' := [.int 3, .ref 0, .int x2, .int x1, .ref 41, .int (-1)]) (pm_q0_24 (Nat.le_of_ble_eq_true rfl)) rfl rfl ?_
      refine pm_R_iald pm_M0 (pc' := 1888) (v := x3) (pm_q0_24 (Nat.le_of_ble_eq_true rfl)) (hh 0 (Nat.le_of_ble_eq_true rfl)) (Nat.le_of_ble_eq_true rfl) rfl hx3 rfl ?_
      refine pm_R_lo pm_M0 (pc' := 1889) (pm_q0_24 (Nat.le_of_ble_eq_true rfl)) rfl rfl ?_
      refine pm_R_lo pm_M0 (pc' := 1890) (pm_q0_24 (Nat.le_of_ble_eq_true rfl)) rfl rfl ?_
      refine pm_R_op pm_M0 (pc' := 1891) (st' := [.int 4, .int 0, .ref 0, .int x3, .int x2, .int x1, .ref 41, .int (-1)]) (pm_q0_24 (Nat.le_of_ble_eq_true rfl)) rfl rfl ?_
      refine pm_R_op pm_M0 (pc' := 1892) (st' := [.int 4, .ref 0, .int x3, .int x2, .int x1, .ref 41, .int (-1)]) (pm_q0_24 (Nat.le_of_ble_eq_true rfl)) rfl rfl ?_
      refine pm_R_iald pm_M0 (pc' := 1893) (v := x4) (pm_q0_24 (Nat.le_of_ble_eq_true rfl)) (hh 0 (Nat.le_of_ble_eq_true rfl)) (Nat.le_of_ble_eq_true rfl) rfl hx4 rfl ?_
      refine pm_R_cv pm_M0 (pc' := 1896) (a := 41) (ra := [.int x4, .int x3, .int x2, .int x1]) (rest := [.int (-1)]) (ls' := [.ref 41, .int x1, .int x2, .int x3, .int x4, pm_no, pm_no]) (pm_q0_24 (Nat.le_of_ble_eq_true rfl)) rfl (Or.inl rfl) pm_M289 (hh 41 (Nat.le_of_ble_eq_true rfl)) rfl (Nat.le_of_ble_eq_true rfl) (Nat.le_of_ble_eq_true rfl) rfl rfl (Nat.le_of_ble_eq_true rfl) rfl rfl ?_
      refine pm_R_lo pm_M289 (pc' := 1) rfl rfl rfl ?_
      refine pm_R_op pm_M289 (pc' := 2) (st' := [.int 0, .ref 41]) rfl rfl rfl ?_
      refine pm_R_put pm_M289 (pc' := 5) (fs' := [.int 0, .ref 42, .ref 43, .ref 44, .ref 45, .ref 46, .ref 47, .ref 48, .ref 49, .ref 50, .int 0, .int 0, .int 0, .int 0, .int 0, .long 0, .int 0, .int 0, .int 0, .ref 51, .ref 52, .int 0, .int 0, .int 0, .int 0, .ref 53, .int 0, .int 0, .ref 54, .ref 55, .ref 56, .int 0, .ref 57, .ref 58, .ref 59, .ref 60, .ref 61, .ref 62, .ref 63, .ref 64, .ref 65, .ref 66, .int 0, .int 0, .int 0, .ref 67, .ref 68, .int 0, .ref 69, .int 0, .int 0, .ref 70, .ref 71]) rfl rfl rfl (hh 41 (Nat.le_of_ble_eq_true rfl)) (Nat.le_of_ble_eq_true rfl) (Nat.le_of_ble_eq_true rfl) (Nat.le_of_ble_eq_true rfl) rfl (Or.inl rfl) rfl rfl ?_
      refine pm_R_lo pm_M289 (pc' := 6) rfl rfl rfl ?_
      refine pm_R_lo pm_M289 (pc' := 7) rfl rfl rfl ?_
      refine pm_R_lo pm_M289 (pc' := 8) rfl rfl rfl ?_
      refine pm_R_cv pm_M289 (pc' := 11) (a := 41) (ra := [.int x2, .int x1]) (rest := []) (ls' := [.ref 41, .int x1, .int x2]) rfl rfl (Or.inl rfl) pm_M200 rfl rfl (Nat.le_of_ble_eq_true rfl) (Nat.le_of_ble_eq_true rfl) rfl rfl (Nat.le_of_ble_eq_true rfl) rfl rfl ?_
      refine pm_R_lo pm_M200 (pc' := 1) rfl rfl rfl ?_
      refine pm_R_op pm_M200 (pc' := 2) (st' := [.int 0, .ref 41]) rfl rfl rfl ?_
      refine pm_R_lo pm_M200 (pc' := 3) rfl rfl rfl ?_
      refine pm_R_cv pm_M200 (pc' := 6) (a := 41) (ra := [.int x1, .int 0]) (rest := []) (ls' := [.ref 41, .int 0, .int x1]) rfl rfl (Or.inl rfl) pm_M177 rfl rfl (Nat.le_of_ble_eq_true rfl) (Nat.le_of_ble_eq_true rfl) rfl rfl (Nat.le_of_ble_eq_true rfl) rfl rfl ?_
      refine pm_R_lo pm_M177 (pc' := 1) rfl rfl rfl ?_
      refine pm_R_op pm_M177 (pc' := 2) (st' := [.int 0, .int x1]) rfl rfl rfl ?_
      refine pm_R_lo pm_M177 (pc' := 3) rfl rfl rfl ?_
      refine pm_R_get pm_M177 (pc' := 6) (v := .ref 46) rfl rfl rfl (Nat.le_of_ble_eq_true rfl) (Nat.le_of_ble_eq_true rfl) rfl rfl ?_
      refine pm_R_lo pm_M177 (pc' := 7) rfl rfl rfl ?_
      refine pm_R_iald pm_M177 (pc' := 8) (v := 0) rfl (hh 46 (Nat.le_of_ble_eq_true rfl)) (Nat.le_of_ble_eq_true rfl) rfl rfl rfl ?_
      refine pm_R_op pm_M177 (pc' := 9) (st' := [.int 1, .int 0, .int 0, .int x1]) rfl rfl rfl ?_
      refine pm_R_op pm_M177 (pc' := 10) (st' := [.int (-1), .int 0, .int x1]) rfl rfl rfl ?_
      refine pm_R_cs pm_M177 (pc' := 13) (ra := [.int (-1), .int 0, .int x1]) (rest := []) (ls' := [.int x1, .int 0, .int (-1)]) rfl rfl (Or.inl rfl) pm_M174 rfl rfl (Nat.le_of_ble_eq_true rfl) rfl rfl ?_
      refine pm_R_lo pm_M174 (pc' := 1) rfl rfl rfl ?_
      refine pm_R_lo pm_M174 (pc' := 2) rfl rfl rfl ?_
      refine pm_R_icmp pm_M174 (t := 14) (pc' := 5) rfl rfl rfl (fun c_3 => ?_) (fun c_3 => by exact absurd c_1 c_3)
      refine pm_R_op pm_M174 (pc' := 15) (st' := [.int 0]) rfl rfl rfl ?_
      refine pm_R_ret pm_M174 (r := some (.int 0)) rfl rfl ?_
      show pm_R _ 177 13 [.ref 41, .int 0, .int x1] [.int 0] _ _
      refine pm_R_ret pm_M177 (r := some (.int 0)) rfl rfl ?_
      show pm_R _ 200 6 [.ref 41, .int x1, .int x2] [.int 0] _ _
      refine pm_R_br pm_M200 (pc' := 18) (st' := []) rfl rfl ?_
      refine pm_R_op pm_M200 (pc' := 19) (st' := [.int 0]) rfl rfl rfl ?_
      refine pm_R_ret pm_M200 (r := some (.int 0)) rfl rfl ?_
      show pm_R _ 289 11 [.ref 41, .int x1, .int x2, .int x3, .int x4, pm_no, pm_no] [.int 0] _ _
      refine pm_R_br pm_M289 (pc' := 43) (st' := []) rfl rfl ?_
      refine pm_R_op pm_M289 (pc' := 44) (st' := [.int (-1)]) rfl rfl rfl ?_
      refine pm_R_ret pm_M289 (r := some (.int (-1))) rfl rfl ?_
      show pm_R _ 0 1896 [.ref 0, .ref 16, .ref 41, .int 0] [.int (-1), .int (-1)] _ _
      refine pm_R_br pm_M0 (pc' := 2121) (st' := []) (pm_q0_24 (Nat.le_of_ble_eq_true rfl)) rfl ?_
      exact p1_tail (hh 0 (Nat.le_of_ble_eq_true rfl)) (Nat.le_of_ble_eq_true rfl) (Nat.le_of_ble_eq_true rfl) (Nat.le_of_ble_eq_true rfl)
    · refine pm_R_lo pm_M66 (pc' := 5) rfl rfl rfl ?_
      refine pm_R_lo pm_M66 (pc' := 6) rfl rfl rfl ?_
      refine pm_R_get pm_M66 (pc' := 9) (v := .ref 17) rfl rfl (hh 16 (Nat.le_of_ble_eq_true rfl)) (Nat.le_of_ble_eq_true rfl) (Nat.le_of_ble_eq_true rfl) rfl rfl ?_
      refine pm_R_get pm_M66 (pc' := 12) (v := .ref 23) rfl rfl (hh 17 (Nat.le_of_ble_eq_true rfl)) (Nat.le_of_ble_eq_true rfl) (Nat.le_of_ble_eq_true rfl) rfl rfl ?_
      refine pm_R_op pm_M66 (pc' := 13) (st' := [.int 1, .ref 23, .int x2]) rfl rfl rfl ?_
      refine pm_R_iald pm_M66 (pc' := 14) (v := 0) rfl (hh 23 (Nat.le_of_ble_eq_true rfl)) (Nat.le_of_ble_eq_true rfl) rfl rfl rfl ?_
      refine pm_R_icmp pm_M66 (t := 21) (pc' := 17) rfl rfl rfl (fun c_4 => by exact absurd c_4 c_2) (fun c_4 => ?_)
      refine pm_R_op pm_M66 (pc' := 18) (st' := [.null]) rfl rfl rfl ?_
      refine pm_R_br pm_M66 (pc' := 30) rfl rfl ?_
      refine pm_R_ret pm_M66 (r := some (.null)) rfl rfl ?_
      show pm_R _ 80 12 [.ref 16, .int x1, .int x2, .int x3, .int x4, .null, pm_no, pm_no, pm_no] [.null] _ _
      refine pm_R_lo pm_M80 (pc' := 14) (ls' := [.ref 16, .int x1, .int x2, .int x3, .int x4, .null, .null, pm_no, pm_no]) (st' := []) rfl rfl rfl ?_
      refine pm_R_lo pm_M80 (pc' := 16) rfl rfl rfl ?_
      refine pm_R_br pm_M80 (pc' := 35) rfl rfl ?_
      refine pm_R_op pm_M80 (pc' := 36) (st' := [.int (-1)]) rfl rfl rfl ?_
      refine pm_R_ret pm_M80 (r := some (.int (-1))) rfl rfl ?_
      show pm_R _ 0 1872 [.ref 0, .ref 16, .ref 41, .int 0] [.int (-1)] _ _
      refine pm_R_lo pm_M0 (pc' := 1873) (pm_q0_24 (Nat.le_of_ble_eq_true rfl)) rfl rfl ?_
      refine pm_R_lo pm_M0 (pc' := 1874) (pm_q0_24 (Nat.le_of_ble_eq_true rfl)) rfl rfl ?_
      refine pm_R_lo pm_M0 (pc' := 1875) (pm_q0_24 (Nat.le_of_ble_eq_true rfl)) rfl rfl ?_
      refine pm_R_op pm_M0 (pc' := 1876) (st' := [.int 1, .int 0, .ref 0, .ref 41, .int (-1)]) (pm_q0_24 (Nat.le_of_ble_eq_true rfl)) rfl rfl ?_
      refine pm_R_op pm_M0 (pc' := 1877) (st' := [.int 1, .ref 0, .ref 41, .int (-1)]) (pm_q0_24 (Nat.le_of_ble_eq_true rfl)) rfl rfl ?_
      refine pm_R_iald pm_M0 (pc' := 1878) (v := x1) (pm_q0_24 (Nat.le_of_ble_eq_true rfl)) (hh 0 (Nat.le_of_ble_eq_true rfl)) (Nat.le_of_ble_eq_true rfl) rfl hx1 rfl ?_
      refine pm_R_lo pm_M0 (pc' := 1879) (pm_q0_24 (Nat.le_of_ble_eq_true rfl)) rfl rfl ?_
      refine pm_R_lo pm_M0 (pc' := 1880) (pm_q0_24 (Nat.le_of_ble_eq_true rfl)) rfl rfl ?_
      refine pm_R_op pm_M0 (pc' := 1881) (st' := [.int 2, .int 0, .ref 0, .int x1, .ref 41, .int (-1)]) (pm_q0_24 (Nat.le_of_ble_eq_true rfl)) rfl rfl ?_
      refine pm_R_op pm_M0 (pc' := 1882) (st' := [.int 2, .ref 0, .int x1, .ref 41, .int (-1)]) (pm_q0_24 (Nat.le_of_ble_eq_true rfl)) rfl rfl ?_
      refine pm_R_iald pm_M0 (pc' := 1883) (v := x2) (pm_q0_24 (Nat.le_of_ble_eq_true rfl)) (hh 0 (Nat.le_of_ble_eq_true rfl)) (Nat.le_of_ble_eq_true rfl) rfl hx2 rfl ?_
      refine pm_R_lo pm_M0 (pc' := 1884) (pm_q0_24 (Nat.le_of_ble_eq_true rfl)) rfl rfl ?_
      refine pm_R_lo pm_M0 (pc' := 1885) (pm_q0_24 (Nat.le_of_ble_eq_true rfl)) rfl rfl ?_
      refine pm_R_op pm_M0 (pc' := 1886) (st' := [.int 3, .int 0, .ref 0, .int x2, .int x1, .ref 41, .int (-1)]) (pm_q0_24 (Nat.le_of_ble_eq_true rfl)) rfl rfl ?_
      refine pm_R_op pm_M0 (pc' := 1887) (st' := [.int 3, .ref 0, .int x2, .int x1, .ref 41, .int (-1)]) (pm_q0_24 (Nat.le_of_ble_eq_true rfl)) rfl rfl ?_
      refine pm_R_iald pm_M0 (pc' := 1888) (v := x3) (pm_q0_24 (Nat.le_of_ble_eq_true rfl)) (hh 0 (Nat.le_of_ble_eq_true rfl)) (Nat.le_of_ble_eq_true rfl) rfl hx3 rfl ?_
      refine pm_R_lo pm_M0 (pc' := 1889) (pm_q0_24 (Nat.le_of_ble_eq_true rfl)) rfl rfl ?_
      refine pm_R_lo pm_M0 (pc' := 1890) (pm_q0_24 (Nat.le_of_ble_eq_true rfl)) rfl rfl ?_
      refine pm_R_op pm_M0 (pc' := 1891) (st' := [.int 4, .int 0, .ref 0, .int x3, .int x2, .int x1, .ref 41, .int (-1)]) (pm_q0_24 (Nat.le_of_ble_eq_true rfl)) rfl rfl ?_
      refine pm_R_op pm_M0 (pc' := 1892) (st' := [.int 4, .ref 0, .int x3, .int x2, .int x1, .ref 41, .int (-1)]) (pm_q0_24 (Nat.le_of_ble_eq_true rfl)) rfl rfl ?_
      refine pm_R_iald pm_M0 (pc' := 1893) (v := x4) (pm_q0_24 (Nat.le_of_ble_eq_true rfl)) (hh 0 (Nat.le_of_ble_eq_true rfl)) (Nat.le_of_ble_eq_true rfl) rfl hx4 rfl ?_
      refine pm_R_cv pm_M0 (pc' := 1896) (a := 41) (ra := [.int x4, .int x3, .int x2, .int x1]) (rest := [.int (-1)]) (ls' := [.ref 41, .int x1, .int x2, .int x3, .int x4, pm_no, pm_no]) (pm_q0_24 (Nat.le_of_ble_eq_true rfl)) rfl (Or.inl rfl) pm_M289 (hh 41 (Nat.le_of_ble_eq_true rfl)) rfl (Nat.le_of_ble_eq_true rfl) (Nat.le_of_ble_eq_true rfl) rfl rfl (Nat.le_of_ble_eq_true rfl) rfl rfl ?_
      refine pm_R_lo pm_M289 (pc' := 1) rfl rfl rfl ?_
      refine pm_R_op pm_M289 (pc' := 2) (st' := [.int 0, .ref 41]) rfl rfl rfl ?_
      refine pm_R_put pm_M289 (pc' := 5) (fs' := [.int 0, .ref 42, .ref 43, .ref 44, .ref 45, .ref 46, .ref 47, .ref 48, .ref 49, .ref 50, .int 0, .int 0, .int 0, .int 0, .int 0, .long 0, .int 0, .int 0, .int 0, .ref 51, .ref 52, .int 0, .int 0, .int 0, .int 0, .ref 53, .int 0, .int 0, .ref 54, .ref 55, .ref 56, .int 0, .ref 57, .ref 58, .ref 59, .ref 60, .ref 61, .ref 62, .ref 63, .ref 64, .ref 65, .ref 66, .int 0, .int 0, .int 0, .ref 67, .ref 68, .int 0, .ref 69, .int 0, .int 0, .ref 70, .ref 71]) rfl rfl rfl (hh 41 (Nat.le_of_ble_eq_true rfl)) (Nat.le_of_ble_eq_true rfl) (Nat.le_of_ble_eq_true rfl) (Nat.le_of_ble_eq_true rfl) rfl (Or.inl rfl) rfl rfl ?_
      refine pm_R_lo pm_M289 (pc' := 6) rfl rfl rfl ?_
      refine pm_R_lo pm_M289 (pc' := 7) rfl rfl rfl ?_
      refine pm_R_lo pm_M289 (pc' := 8) rfl rfl rfl ?_
      refine pm_R_cv pm_M289 (pc' := 11) (a := 41) (ra := [.int x2, .int x1]) (rest := []) (ls' := [.ref 41, .int x1, .int x2]) rfl rfl (Or.inl rfl) pm_M200 rfl rfl (Nat.le_of_ble_eq_true rfl) (Nat.le_of_ble_eq_true rfl) rfl rfl (Nat.le_of_ble_eq_true rfl) rfl rfl ?_
      refine pm_R_lo pm_M200 (pc' := 1) rfl rfl rfl ?_
      refine pm_R_op pm_M200 (pc' := 2) (st' := [.int 0, .ref 41]) rfl rfl rfl ?_
      refine pm_R_lo pm_M200 (pc' := 3) rfl rfl rfl ?_
      refine pm_R_cv pm_M200 (pc' := 6) (a := 41) (ra := [.int x1, .int 0]) (rest := []) (ls' := [.ref 41, .int 0, .int x1]) rfl rfl (Or.inl rfl) pm_M177 rfl rfl (Nat.le_of_ble_eq_true rfl) (Nat.le_of_ble_eq_true rfl) rfl rfl (Nat.le_of_ble_eq_true rfl) rfl rfl ?_
      refine pm_R_lo pm_M177 (pc' := 1) rfl rfl rfl ?_
      refine pm_R_op pm_M177 (pc' := 2) (st' := [.int 0, .int x1]) rfl rfl rfl ?_
      refine pm_R_lo pm_M177 (pc' := 3) rfl rfl rfl ?_
      refine pm_R_get pm_M177 (pc' := 6) (v := .ref 46) rfl rfl rfl (Nat.le_of_ble_eq_true rfl) (Nat.le_of_ble_eq_true rfl) rfl rfl ?_
      refine pm_R_lo pm_M177 (pc' := 7) rfl rfl rfl ?_
      refine pm_R_iald pm_M177 (pc' := 8) (v := 0) rfl (hh 46 (Nat.le_of_ble_eq_true rfl)) (Nat.le_of_ble_eq_true rfl) rfl rfl rfl ?_
      refine pm_R_op pm_M177 (pc' := 9) (st' := [.int 1, .int 0, .int 0, .int x1]) rfl rfl rfl ?_
      refine pm_R_op pm_M177 (pc' := 10) (st' := [.int (-1), .int 0, .int x1]) rfl rfl rfl ?_
      refine pm_R_cs pm_M177 (pc' := 13) (ra := [.int (-1), .int 0, .int x1]) (rest := []) (ls' := [.int x1, .int 0, .int (-1)]) rfl rfl (Or.inl rfl) pm_M174 rfl rfl (Nat.le_of_ble_eq_true rfl) rfl rfl ?_
      refine pm_R_lo pm_M174 (pc' := 1) rfl rfl rfl ?_
      refine pm_R_lo pm_M174 (pc' := 2) rfl rfl rfl ?_
      refine pm_R_icmp pm_M174 (t := 14) (pc' := 5) rfl rfl rfl (fun c_5 => ?_) (fun c_5 => by exact absurd c_1 c_5)
      refine pm_R_op pm_M174 (pc' := 15) (st' := [.int 0]) rfl rfl rfl ?_
      refine pm_R_ret pm_M174 (r := some (.int 0)) rfl rfl ?_
      show pm_R _ 177 13 [.ref 41, .int 0, .int x1] [.int 0] _ _
      refine pm_R_ret pm_M177 (r := some (.int 0)) rfl rfl ?_
      show pm_R _ 200 6 [.ref 41, .int x1, .int x2] [.int 0] _ _
      refine pm_R_br pm_M200 (pc' := 18) (st' := []) rfl rfl ?_
      refine pm_R_op pm_M200 (pc' := 19) (st' := [.int 0]) rfl rfl rfl ?_
      refine pm_R_ret pm_M200 (r := some (.int 0)) rfl rfl ?_
      show pm_R _ 289 11 [.ref 41, .int x1, .int x2, .int x3, .int x4, pm_no, pm_no] [.int 0] _ _
      refine pm_R_br pm_M289 (pc' := 43) (st' := []) rfl rfl ?_
      refine pm_R_op pm_M289 (pc' := 44) (st' := [.int (-1)]) rfl rfl rfl ?_
      refine pm_R_ret pm_M289 (r := some (.int (-1))) rfl rfl ?_
      show pm_R _ 0 1896 [.ref 0, .ref 16, .ref 41, .int 0] [.int (-1), .int (-1)] _ _
      refine pm_R_br pm_M0 (pc' := 2121) (st' := []) (pm_q0_24 (Nat.le_of_ble_eq_true rfl)) rfl ?_
      exact p1_tail (hh 0 (Nat.le_of_ble_eq_true rfl)) (Nat.le_of_ble_eq_true rfl) (Nat.le_of_ble_eq_true rfl) (Nat.le_of_ble_eq_true rfl)
  · refine pm_R_lo pm_M62 (pc' := 5) rfl rfl rfl ?_
    refine pm_R_lo pm_M62 (pc' := 6) rfl rfl rfl ?_
    refine pm_R_get pm_M62 (pc' := 9) (v := .ref 17) rfl rfl (hh 16 (Nat.le_of_ble_eq_true rfl)) (Nat.le_of_ble_eq_true rfl) (Nat.le_of_ble_eq_true rfl) rfl rfl ?_
    refine pm_R_get pm_M62 (pc' := 12) (v := .ref 23) rfl rfl (hh 17 (Nat.le_of_ble_eq_true rfl)) (Nat.le_of_ble_eq_true rfl) (Nat.le_of_ble_eq_true rfl) rfl rfl ?_
    refine pm_R_op pm_M62 (pc' := 13) (st' := [.int 0, .ref 23, .int x1]) rfl rfl rfl ?_
    refine pm_R_iald pm_M62 (pc' := 14) (v := 0) rfl (hh 23 (Nat.le_of_ble_eq_true rfl)) (Nat.le_of_ble_eq_true rfl) rfl rfl rfl ?_
    refine pm_R_icmp pm_M62 (t := 21) (pc' := 17) rfl rfl rfl (fun c_6 => by exact absurd c_6 c_1) (fun c_6 => ?_)
    refine pm_R_op pm_M62 (pc' := 18) (st' := [.null]) rfl rfl rfl ?_
    refine pm_R_br pm_M62 (pc' := 30) rfl rfl ?_
    refine pm_R_ret pm_M62 (r := some (.null)) rfl rfl ?_
    show pm_R _ 80 5 [.ref 16, .int x1, .int x2, .int x3, .int x4, pm_no, pm_no, pm_no, pm_no] [.null] _ _
    refine pm_R_lo pm_M80 (pc' := 7) (ls' := [.ref 16, .int x1, .int x2, .int x3, .int x4, .null, pm_no, pm_no, pm_no]) (st' := []) rfl rfl rfl ?_
    refine pm_R_lo pm_M80 (pc' := 8) rfl rfl rfl ?_
    refine pm_R_lo pm_M80 (pc' := 9) rfl rfl rfl ?_
    refine pm_R_cv pm_M80 (pc' := 12) (a := 16) (ra := [.int x2]) (rest := []) (ls' := [.ref 16, .int x2]) rfl rfl (Or.inl rfl) pm_M66 (hh 16 (Nat.le_of_ble_eq_true rfl)) rfl (Nat.le_of_ble_eq_true rfl) (Nat.le_of_ble_eq_true rfl) rfl rfl (Nat.le_of_ble_eq_true rfl) rfl rfl ?_
    refine pm_R_lo pm_M66 (pc' := 1) rfl rfl rfl ?_
    refine pm_R_ifc pm_M66 (t := 17) (pc' := 4) rfl rfl rfl (fun c_7 => ?_) (fun c_7 => ?_)
    · refine pm_R_op pm_M66 (pc' := 18) (st' := [.null]) rfl rfl rfl ?_
      refine pm_R_br pm_M66 (pc' := 30) rfl rfl ?_
      refine pm_R_ret pm_M66 (r := some (.null)) rfl rfl ?_
      show pm_R _ 80 12 [.ref 16, .int x1, .int x2, .int x3, .int x4, .null, pm_no, pm_no, pm_no] [.null] _ _
      refine pm_R_lo pm_M80 (pc' := 14) (ls' := [.ref 16, .int x1, .int x2, .int x3, .int x4, .null, .null, pm_no, pm_no]) (st' := []) rfl rfl rfl ?_
      refine pm_R_lo pm_M80 (pc' := 16) rfl rfl rfl ?_
      refine pm_R_br pm_M80 (pc' := 35) rfl rfl ?_
      refine pm_R_op pm_M80 (pc' := 36) (st' := [.int (-1)]) rfl rfl rfl ?_
      refine pm_R_ret pm_M80 (r := some (.int (-1))) rfl rfl ?_
      show pm_R _ 0 1872 [.ref 0, .ref 16, .ref 41, .int 0] [.int (-1)] _ _
      refine pm_R_lo pm_M0 (pc' := 1873) (pm_q0_24 (Nat.le_of_ble_eq_true rfl)) rfl rfl ?_
      refine pm_R_lo pm_M0 (pc' := 1874) (pm_q0_24 (Nat.le_of_ble_eq_true rfl)) rfl rfl ?_
      refine pm_R_lo pm_M0 (pc' := 1875) (pm_q0_24 (Nat.le_of_ble_eq_true rfl)) rfl rfl ?_
      refine pm_R_op pm_M0 (pc' := 1876) (st' := [.int 1, .int 0, .ref 0, .ref 41, .int (-1)]) (pm_q0_24 (Nat.le_of_ble_eq_true rfl)) rfl rfl ?_
      refine pm_R_op pm_M0 (pc' := 1877) (st' := [.int 1, .ref 0, .ref 41, .int (-1)]) (pm_q0_24 (Nat.le_of_ble_eq_true rfl)) rfl rfl ?_
      refine pm_R_iald pm_M0 (pc' := 1878) (v := x1) (pm_q0_24 (Nat.le_of_ble_eq_true rfl)) (hh 0 (Nat.le_of_ble_eq_true rfl)) (Nat.le_of_ble_eq_true rfl) rfl hx1 rfl ?_
      refine pm_R_lo pm_M0 (pc' := 1879) (pm_q0_24 (Nat.le_of_ble_eq_true rfl)) rfl rfl ?_
      refine pm_R_lo pm_M0 (pc' := 1880) (pm_q0_24 (Nat.le_of_ble_eq_true rfl)) rfl rfl ?_
      refine pm_R_op pm_M0 (pc' := 1881) (st' := [.int 2, .int 0, .ref 0, .int x1, .ref 41, .int (-1)]) (pm_q0_24 (Nat.le_of_ble_eq_true rfl)) rfl rfl ?_
      refine pm_R_op pm_M0 (pc' := 1882) (st' := [.int 2, .ref 0, .int x1, .ref 41, .int (-1)]) (pm_q0_24 (Nat.le_of_ble_eq_true rfl)) rfl rfl ?_
      refine pm_R_iald pm_M0 (pc' := 1883) (v := x2) (pm_q0_24 (Nat.le_of_ble_eq_true rfl)) (hh 0 (Nat.le_of_ble_eq_true rfl)) (Nat.le_of_ble_eq_true rfl) rfl hx2 rfl ?_
      refine pm_R_lo pm_M0 (pc' := 1884) (pm_q0_24 (Nat.le_of_ble_eq_true rfl)) rfl rfl ?_
      refine pm_R_lo pm_M0 (pc' := 1885) (pm_q0_24 (Nat.le_of_ble_eq_true rfl)) rfl rfl ?_
      refine pm_R_op pm_M0 (pc' := 1886) (st' := [.int 3, .int 0, .ref 0, .int x2, .int x1, .ref 41, .int (-1)]) (pm_q0_24 (Nat.le_of_ble_eq_true rfl)) rfl rfl ?_
      refine pm_R_op pm_M0 (pc' := 1887) (st' := [.int 3, .ref 0, .int x2, .int x1, .ref 41, .int (-1)]) (pm_q0_24 (Nat.le_of_ble_eq_true rfl)) rfl rfl ?_
      refine pm_R_iald pm_M0 (pc' := 1888) (v := x3) (pm_q0_24 (Nat.le_of_ble_eq_true rfl)) (hh 0 (Nat.le_of_ble_eq_true rfl)) (Nat.le_of_ble_eq_true rfl) rfl hx3 rfl ?_
      refine pm_R_lo pm_M0 (pc' := 1889) (pm_q0_24 (Nat.le_of_ble_eq_true rfl)) rfl rfl ?_
      refine pm_R_lo pm_M0 (pc' := 1890) (pm_q0_24 (Nat.le_of_ble_eq_true rfl)) rfl rfl ?_
      refine pm_R_op pm_M0 (pc' := 1891) (st' := [.int 4, .int 0, .ref 0, .int x3, .int x2, .int x1, .ref 41, .int (-1)]) (pm_q0_24 (Nat.le_of_ble_eq_true rfl)) rfl rfl ?_
      refine pm_R_op pm_M0 (pc' := 1892) (st' := [.int 4, .ref 0, .int x3, .int x2, .int x1, .ref 41, .int (-1)]) (pm_q0_24 (Nat.le_of_ble_eq_true rfl)) rfl rfl ?_
      refine pm_R_iald pm_M0 (pc' := 1893) (v := x4) (pm_q0_24 (Nat.le_of_ble_eq_true rfl)) (hh 0 (Nat.le_of_ble_eq_true rfl)) (Nat.le_of_ble_eq_true rfl) rfl hx4 rfl ?_
      refine pm_R_cv pm_M0 (pc' := 1896) (a := 41) (ra := [.int x4, .int x3, .int x2, .int x1]) (rest := [.int (-1)]) (ls' := [.ref 41, .int x1, .int x2, .int x3, .int x4, pm_no, pm_no]) (pm_q0_24 (Nat.le_of_ble_eq_true rfl)) rfl (Or.inl rfl) pm_M289 (hh 41 (Nat.le_of_ble_eq_true rfl)) rfl (Nat.le_of_ble_eq_true rfl) (Nat.le_of_ble_eq_true rfl) rfl rfl (Nat.le_of_ble_eq_true rfl) rfl rfl ?_
      refine pm_R_lo pm_M289 (pc' := 1) rfl rfl rfl ?_
      refine pm_R_op pm_M289 (pc' := 2) (st' := [.int 0, .ref 41]) rfl rfl rfl ?_
      refine pm_R_put pm_M289 (pc' := 5) (fs' := [.int 0, .ref 42, .ref 43, .ref 44, .ref 45, .ref 46, .ref 47, .ref 48, .ref 49, .ref 50, .int 0, .int 0, .int 0, .int 0, .int 0, .long 0, .int 0, .int 0, .int 0, .ref 51, .ref 52, .int 0, .int 0, .int 0, .int 0, .ref 53, .int 0, .int 0, .ref 54, .ref 55, .ref 56, .int 0, .ref 57, .ref 58, .ref 59, .ref 60, .ref 61, .ref 62, .ref 63, .ref 64, .ref 65, .ref 66, .int 0, .int 0, .int 0, .ref 67, .ref 68, .int 0, .ref 69, .int 0, .int 0, .ref 70, .ref 71]) rfl rfl rfl (hh 41 (Nat.le_of_ble_eq_true rfl)) (Nat.le_of_ble_eq_true rfl) (Nat.le_of_ble_eq_true rfl) (Nat.le_of_ble_eq_true rfl) rfl (Or.inl rfl) rfl rfl ?_
      refine pm_R_lo pm_M289 (pc' := 6) rfl rfl rfl ?_
      refine pm_R_lo pm_M289 (pc' := 7) rfl rfl rfl ?_
      refine pm_R_lo pm_M289 (pc' := 8) rfl rfl rfl ?_
      refine pm_R_cv pm_M289 (pc' := 11) (a := 41) (ra := [.int x2, .int x1]) (rest := []) (ls' := [.ref 41, .int x1, .int x2]) rfl rfl (Or.inl rfl) pm_M200 rfl rfl (Nat.le_of_ble_eq_true rfl) (Nat.le_of_ble_eq_true rfl) rfl rfl (Nat.le_of_ble_eq_true rfl) rfl rfl ?_
      refine pm_R_lo pm_M200 (pc' := 1) rfl rfl rfl ?_
      refine pm_R_op pm_M200 (pc' := 2) (st' := [.int 0, .ref 41]) rfl rfl rfl ?_
      refine pm_R_lo pm_M200 (pc' := 3) rfl rfl rfl ?_
      refine pm_R_cv pm_M200 (pc' := 6) (a := 41) (ra := [.int x1, .int 0]) (rest := []) (ls' := [.ref 41, .int 0, .int x1]) rfl rfl (Or.inl rfl) pm_M177 rfl rfl (Nat.le_of_ble_eq_true rfl) (Nat.le_of_ble_eq_true rfl) rfl rfl (Nat.le_of_ble_eq_true rfl) rfl rfl ?_
      refine pm_R_lo pm_M177 (pc' := 1) rfl rfl rfl ?_
      refine pm_R_op pm_M177 (pc' := 2) (st' := [.int 0, .int x1]) rfl rfl rfl ?_
      refine pm_R_lo pm_M177 (pc' := 3) rfl rfl rfl ?_
      refine pm_R_get pm_M177 (pc' := 6) (v := .ref 46) rfl rfl rfl (Nat.le_of_ble_eq_true rfl) (Nat.le_of_ble_eq_true rfl) rfl rfl ?_
      refine pm_R_lo pm_M177 (pc' := 7) rfl rfl rfl ?_
      refine pm_R_iald pm_M177 (pc' := 8) (v := 0) rfl (hh 46 (Nat.le_of_ble_eq_true rfl)) (Nat.le_of_ble_eq_true rfl) rfl rfl rfl ?_
      refine pm_R_op pm_M177 (pc' := 9) (st' := [.int 1, .int 0, .int 0, .int x1]) rfl rfl rfl ?_
      refine pm_R_op pm_M177 (pc' := 10) (st' := [.int (-1), .int 0, .int x1]) rfl rfl rfl ?_
      refine pm_R_cs pm_M177 (pc' := 13) (ra := [.int (-1), .int 0, .int x1]) (rest := []) (ls' := [.int x1, .int 0, .int (-1)]) rfl rfl (Or.inl rfl) pm_M174 rfl rfl (Nat.le_of_ble_eq_true rfl) rfl rfl ?_
      refine pm_R_lo pm_M174 (pc' := 1) rfl rfl rfl ?_
      refine pm_R_lo pm_M174 (pc' := 2) rfl rfl rfl ?_
      refine pm_R_icmp pm_M174 (t := 14) (pc' := 5) rfl rfl rfl (fun c_8 => by exact absurd c_8 c_1) (fun c_8 => ?_)
      refine pm_R_lo pm_M174 (pc' := 6) rfl rfl rfl ?_
      refine pm_R_lo pm_M174 (pc' := 7) rfl rfl rfl ?_
      refine pm_R_icmp pm_M174 (t := 14) (pc' := 10) rfl rfl rfl (fun c_9 => ?_) (fun c_9 => by have z0 : ((-1) : Int32).toInt = -1 := (by decide); have z1 : ((0) : Int32).toInt = 0 := (by decide); have q0 := (Int32.le_iff_toInt_le.mp (Int32.not_lt.mp c_1)); have q1 := (Int32.le_iff_toInt_le.mp (Int32.not_lt.mp c_9)); exfalso; omega)
      refine pm_R_op pm_M174 (pc' := 15) (st' := [.int 0]) rfl rfl rfl ?_
      refine pm_R_ret pm_M174 (r := some (.int 0)) rfl rfl ?_
      show pm_R _ 177 13 [.ref 41, .int 0, .int x1] [.int 0] _ _
      refine pm_R_ret pm_M177 (r := some (.int 0)) rfl rfl ?_
      show pm_R _ 200 6 [.ref 41, .int x1, .int x2] [.int 0] _ _
      refine pm_R_br pm_M200 (pc' := 18) (st' := []) rfl rfl ?_
      refine pm_R_op pm_M200 (pc' := 19) (st' := [.int 0]) rfl rfl rfl ?_
      refine pm_R_ret pm_M200 (r := some (.int 0)) rfl rfl ?_
      show pm_R _ 289 11 [.ref 41, .int x1, .int x2, .int x3, .int x4, pm_no, pm_no] [.int 0] _ _
      refine pm_R_br pm_M289 (pc' := 43) (st' := []) rfl rfl ?_
      refine pm_R_op pm_M289 (pc' := 44) (st' := [.int (-1)]) rfl rfl rfl ?_
      refine pm_R_ret pm_M289 (r := some (.int (-1))) rfl rfl ?_
      show pm_R _ 0 1896 [.ref 0, .ref 16, .ref 41, .int 0] [.int (-1), .int (-1)] _ _
      refine pm_R_br pm_M0 (pc' := 2121) (st' := []) (pm_q0_24 (Nat.le_of_ble_eq_true rfl)) rfl ?_
      exact p1_tail (hh 0 (Nat.le_of_ble_eq_true rfl)) (Nat.le_of_ble_eq_true rfl) (Nat.le_of_ble_eq_true rfl) (Nat.le_of_ble_eq_true rfl)
    · refine pm_R_lo pm_M66 (pc' := 5) rfl rfl rfl ?_
      refine pm_R_lo pm_M66 (pc' := 6) rfl rfl rfl ?_
      refine pm_R_get pm_M66 (pc' := 9) (v := .ref 17) rfl rfl (hh 16 (Nat.le_of_ble_eq_true rfl)) (Nat.le_of_ble_eq_true rfl) (Nat.le_of_ble_eq_true rfl) rfl rfl ?_
      refine pm_R_get pm_M66 (pc' := 12) (v := .ref 23) rfl rfl (hh 17 (Nat.le_of_ble_eq_true rfl)) (Nat.le_of_ble_eq_true rfl) (Nat.le_of_ble_eq_true rfl) rfl rfl ?_
      refine pm_R_op pm_M66 (pc' := 13) (st' := [.int 1, .ref 23, .int x2]) rfl rfl rfl ?_
      refine pm_R_iald pm_M66 (pc' := 14) (v := 0) rfl (hh 23 (Nat.le_of_ble_eq_true rfl)) (Nat.le_of_ble_eq_true rfl) rfl rfl rfl ?_
      refine pm_R_icmp pm_M66 (t := 21) (pc' := 17) rfl rfl rfl (fun c_10 => by exact absurd c_10 c_7) (fun c_10 => ?_)
      refine pm_R_op pm_M66 (pc' := 18) (st' := [.null]) rfl rfl rfl ?_
      refine pm_R_br pm_M66 (pc' := 30) rfl rfl ?_
      refine pm_R_ret pm_M66 (r := some (.null)) rfl rfl ?_
      show pm_R _ 80 12 [.ref 16, .int x1, .int x2, .int x3, .int x4, .null, pm_no, pm_no, pm_no] [.null] _ _
      refine pm_R_lo pm_M80 (pc' := 14) (ls' := [.ref 16, .int x1, .int x2, .int x3, .int x4, .null, .null, pm_no, pm_no]) (st' := []) rfl rfl rfl ?_
      refine pm_R_lo pm_M80 (pc' := 16) rfl rfl rfl ?_
      refine pm_R_br pm_M80 (pc' := 35) rfl rfl ?_
      refine pm_R_op pm_M80 (pc' := 36) (st' := [.int (-1)]) rfl rfl rfl ?_
      refine pm_R_ret pm_M80 (r := some (.int (-1))) rfl rfl ?_
      show pm_R _ 0 1872 [.ref 0, .ref 16, .ref 41, .int 0] [.int (-1)] _ _
      refine pm_R_lo pm_M0 (pc' := 1873) (pm_q0_24 (Nat.le_of_ble_eq_true rfl)) rfl rfl ?_
      refine pm_R_lo pm_M0 (pc' := 1874) (pm_q0_24 (Nat.le_of_ble_eq_true rfl)) rfl rfl ?_
      refine pm_R_lo pm_M0 (pc' := 1875) (pm_q0_24 (Nat.le_of_ble_eq_true rfl)) rfl rfl ?_
      refine pm_R_op pm_M0 (pc' := 1876) (st' := [.int 1, .int 0, .ref 0, .ref 41, .int (-1)]) (pm_q0_24 (Nat.le_of_ble_eq_true rfl)) rfl rfl ?_
      refine pm_R_op pm_M0 (pc' := 1877) (st' := [.int 1, .ref 0, .ref 41, .int (-1)]) (pm_q0_24 (Nat.le_of_ble_eq_true rfl)) rfl rfl ?_
      refine pm_R_iald pm_M0 (pc' := 1878) (v := x1) (pm_q0_24 (Nat.le_of_ble_eq_true rfl)) (hh 0 (Nat.le_of_ble_eq_true rfl)) (Nat.le_of_ble_eq_true rfl) rfl hx1 rfl ?_
      refine pm_R_lo pm_M0 (pc' := 1879) (pm_q0_24 (Nat.le_of_ble_eq_true rfl)) rfl rfl ?_
      refine pm_R_lo pm_M0 (pc' := 1880) (pm_q0_24 (Nat.le_of_ble_eq_true rfl)) rfl rfl ?_
      refine pm_R_op pm_M0 (pc' := 1881) (st' := [.int 2, .int 0, .ref 0, .int x1, .ref 41, .int (-1)]) (pm_q0_24 (Nat.le_of_ble_eq_true rfl)) rfl rfl ?_
      refine pm_R_op pm_M0 (pc' := 1882) (st' := [.int 2, .ref 0, .int x1, .ref 41, .int (-1)]) (pm_q0_24 (Nat.le_of_ble_eq_true rfl)) rfl rfl ?_
      refine pm_R_iald pm_M0 (pc' := 1883) (v := x2) (pm_q0_24 (Nat.le_of_ble_eq_true rfl)) (hh 0 (Nat.le_of_ble_eq_true rfl)) (Nat.le_of_ble_eq_true rfl) rfl hx2 rfl ?_
      refine pm_R_lo pm_M0 (pc' := 1884) (pm_q0_24 (Nat.le_of_ble_eq_true rfl)) rfl rfl ?_
      refine pm_R_lo pm_M0 (pc' := 1885) (pm_q0_24 (Nat.le_of_ble_eq_true rfl)) rfl rfl ?_
      refine pm_R_op pm_M0 (pc' := 1886) (st' := [.int 3, .int 0, .ref 0, .int x2, .int x1, .ref 41, .int (-1)]) (pm_q0_24 (Nat.le_of_ble_eq_true rfl)) rfl rfl ?_
      refine pm_R_op pm_M0 (pc' := 1887) (st' := [.int 3, .ref 0, .int x2, .int x1, .ref 41, .int (-1)]) (pm_q0_24 (Nat.le_of_ble_eq_true rfl)) rfl rfl ?_
      refine pm_R_iald pm_M0 (pc' := 1888) (v := x3) (pm_q0_24 (Nat.le_of_ble_eq_true rfl)) (hh 0 (Nat.le_of_ble_eq_true rfl)) (Nat.le_of_ble_eq_true rfl) rfl hx3 rfl ?_
      refine pm_R_lo pm_M0 (pc' := 1889) (pm_q0_24 (Nat.le_of_ble_eq_true rfl)) rfl rfl ?_
      refine pm_R_lo pm_M0 (pc' := 1890) (pm_q0_24 (Nat.le_of_ble_eq_true rfl)) rfl rfl ?_
      refine pm_R_op pm_M0 (pc' := 1891) (st' := [.int 4, .int 0, .ref 0, .int x3, .int x2, .int x1, .ref 41, .int (-1)]) (pm_q0_24 (Nat.le_of_ble_eq_true rfl)) rfl rfl ?_
      refine pm_R_op pm_M0 (pc' := 1892) (st' := [.int 4, .ref 0, .int x3, .int x2, .int x1, .ref 41, .int (-1)]) (pm_q0_24 (Nat.le_of_ble_eq_true rfl)) rfl rfl ?_
      refine pm_R_iald pm_M0 (pc' := 1893) (v := x4) (pm_q0_24 (Nat.le_of_ble_eq_true rfl)) (hh 0 (Nat.le_of_ble_eq_true rfl)) (Nat.le_of_ble_eq_true rfl) rfl hx4 rfl ?_
      refine pm_R_cv pm_M0 (pc' := 1896) (a := 41) (ra := [.int x4, .int x3, .int x2, .int x1]) (rest := [.int (-1)]) (ls' := [.ref 41, .int x1, .int x2, .int x3, .int x4, pm_no, pm_no]) (pm_q0_24 (Nat.le_of_ble_eq_true rfl)) rfl (Or.inl rfl) pm_M289 (hh 41 (Nat.le_of_ble_eq_true rfl)) rfl (Nat.le_of_ble_eq_true rfl) (Nat.le_of_ble_eq_true rfl) rfl rfl (Nat.le_of_ble_eq_true rfl) rfl rfl ?_
      refine pm_R_lo pm_M289 (pc' := 1) rfl rfl rfl ?_
      refine pm_R_op pm_M289 (pc' := 2) (st' := [.int 0, .ref 41]) rfl rfl rfl ?_
      refine pm_R_put pm_M289 (pc' := 5) (fs' := [.int 0, .ref 42, .ref 43, .ref 44, .ref 45, .ref 46, .ref 47, .ref 48, .ref 49, .ref 50, .int 0, .int 0, .int 0, .int 0, .int 0, .long 0, .int 0, .int 0, .int 0, .ref 51, .ref 52, .int 0, .int 0, .int 0, .int 0, .ref 53, .int 0, .int 0, .ref 54, .ref 55, .ref 56, .int 0, .ref 57, .ref 58, .ref 59, .ref 60, .ref 61, .ref 62, .ref 63, .ref 64, .ref 65, .ref 66, .int 0, .int 0, .int 0, .ref 67, .ref 68, .int 0, .ref 69, .int 0, .int 0, .ref 70, .ref 71]) rfl rfl rfl (hh 41 (Nat.le_of_ble_eq_true rfl)) (Nat.le_of_ble_eq_true rfl) (Nat.le_of_ble_eq_true rfl) (Nat.le_of_ble_eq_true rfl) rfl (Or.inl rfl) rfl rfl ?_
      refine pm_R_lo pm_M289 (pc' := 6) rfl rfl rfl ?_
      refine pm_R_lo pm_M289 (pc' := 7) rfl rfl rfl ?_
      refine pm_R_lo pm_M289 (pc' := 8) rfl rfl rfl ?_
      refine pm_R_cv pm_M289 (pc' := 11) (a := 41) (ra := [.int x2, .int x1]) (rest := []) (ls' := [.ref 41, .int x1, .int x2]) rfl rfl (Or.inl rfl) pm_M200 rfl rfl (Nat.le_of_ble_eq_true rfl) (Nat.le_of_ble_eq_true rfl) rfl rfl (Nat.le_of_ble_eq_true rfl) rfl rfl ?_
      refine pm_R_lo pm_M200 (pc' := 1) rfl rfl rfl ?_
      refine pm_R_op pm_M200 (pc' := 2) (st' := [.int 0, .ref 41]) rfl rfl rfl ?_
      refine pm_R_lo pm_M200 (pc' := 3) rfl rfl rfl ?_
      refine pm_R_cv pm_M200 (pc' := 6) (a := 41) (ra := [.int x1, .int 0]) (rest := []) (ls' := [.ref 41, .int 0, .int x1]) rfl rfl (Or.inl rfl) pm_M177 rfl rfl (Nat.le_of_ble_eq_true rfl) (Nat.le_of_ble_eq_true rfl) rfl rfl (Nat.le_of_ble_eq_true rfl) rfl rfl ?_
      refine pm_R_lo pm_M177 (pc' := 1) rfl rfl rfl ?_
      refine pm_R_op pm_M177 (pc' := 2) (st' := [.int 0, .int x1]) rfl rfl rfl ?_
      refine pm_R_lo pm_M177 (pc' := 3) rfl rfl rfl ?_
      refine pm_R_get pm_M177 (pc' := 6) (v := .ref 46) rfl rfl rfl (Nat.le_of_ble_eq_true rfl) (Nat.le_of_ble_eq_true rfl) rfl rfl ?_
      refine pm_R_lo pm_M177 (pc' := 7) rfl rfl rfl ?_
      refine pm_R_iald pm_M177 (pc' := 8) (v := 0) rfl (hh 46 (Nat.le_of_ble_eq_true rfl)) (Nat.le_of_ble_eq_true rfl) rfl rfl rfl ?_
      refine pm_R_op pm_M177 (pc' := 9) (st' := [.int 1, .int 0, .int 0, .int x1]) rfl rfl rfl ?_
      refine pm_R_op pm_M177 (pc' := 10) (st' := [.int (-1), .int 0, .int x1]) rfl rfl rfl ?_
      refine pm_R_cs pm_M177 (pc' := 13) (ra := [.int (-1), .int 0, .int x1]) (rest := []) (ls' := [.int x1, .int 0, .int (-1)]) rfl rfl (Or.inl rfl) pm_M174 rfl rfl (Nat.le_of_ble_eq_true rfl) rfl rfl ?_
      refine pm_R_lo pm_M174 (pc' := 1) rfl rfl rfl ?_
      refine pm_R_lo pm_M174 (pc' := 2) rfl rfl rfl ?_
      refine pm_R_icmp pm_M174 (t := 14) (pc' := 5) rfl rfl rfl (fun c_11 => by exact absurd c_11 c_1) (fun c_11 => ?_)
      refine pm_R_lo pm_M174 (pc' := 6) rfl rfl rfl ?_
      refine pm_R_lo pm_M174 (pc' := 7) rfl rfl rfl ?_
      refine pm_R_icmp pm_M174 (t := 14) (pc' := 10) rfl rfl rfl (fun c_12 => ?_) (fun c_12 => by have z0 : ((-1) : Int32).toInt = -1 := (by decide); have z1 : ((0) : Int32).toInt = 0 := (by decide); have q0 := (Int32.le_iff_toInt_le.mp (Int32.not_lt.mp c_1)); have q1 := (Int32.le_iff_toInt_le.mp (Int32.not_lt.mp c_12)); exfalso; omega)
      refine pm_R_op pm_M174 (pc' := 15) (st' := [.int 0]) rfl rfl rfl ?_
      refine pm_R_ret pm_M174 (r := some (.int 0)) rfl rfl ?_
      show pm_R _ 177 13 [.ref 41, .int 0, .int x1] [.int 0] _ _
      refine pm_R_ret pm_M177 (r := some (.int 0)) rfl rfl ?_
      show pm_R _ 200 6 [.ref 41, .int x1, .int x2] [.int 0] _ _
      refine pm_R_br pm_M200 (pc' := 18) (st' := []) rfl rfl ?_
      refine pm_R_op pm_M200 (pc' := 19) (st' := [.int 0]) rfl rfl rfl ?_
      refine pm_R_ret pm_M200 (r := some (.int 0)) rfl rfl ?_
      show pm_R _ 289 11 [.ref 41, .int x1, .int x2, .int x3, .int x4, pm_no, pm_no] [.int 0] _ _
      refine pm_R_br pm_M289 (pc' := 43) (st' := []) rfl rfl ?_
      refine pm_R_op pm_M289 (pc' := 44) (st' := [.int (-1)]) rfl rfl rfl ?_
      refine pm_R_ret pm_M289 (r := some (.int (-1))) rfl rfl ?_
      show pm_R _ 0 1896 [.ref 0, .ref 16, .ref 41, .int 0] [.int (-1), .int (-1)] _ _
      refine pm_R_br pm_M0 (pc' := 2121) (st' := []) (pm_q0_24 (Nat.le_of_ble_eq_true rfl)) rfl ?_
      exact p1_tail (hh 0 (Nat.le_of_ble_eq_true rfl)) (Nat.le_of_ble_eq_true rfl) (Nat.le_of_ble_eq_true rfl) (Nat.le_of_ble_eq_true rfl)
