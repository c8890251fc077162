set_option maxRecDepth 100000 in
set_option maxHeartbeats 40000000 in
theorem p1_c18 (xs : Nat → Int32) (f : Nat → pm_E) (hh : ∀ i, i < 72 → f i = pm_fF 7 xs i) (x0 x1 x2 x3 x4 x5 x6 : Int32) (hx0 : xs 0 = x0) (hx1 : xs 1 = x1) (hx2 : xs 2 = x2) (hx3 : xs 3 = x3) (hx4 : xs 4 = x4) (hx5 : xs 5 = x5) (hx6 : xs 6 = x6) : pm_R 100 0 1017 [.ref 0, .ref 16, .ref 41, .int 0] [] (72, 52657, f) p1_Q := by
  refine pm_R_lo pm_M0 (pc' := 1018) (pm_q0_11 (Nat.le_of_ble_eq_true rfl)) rfl rfl ?_
  refine pm_R_lo pm_M0 (pc' := 1019) (pm_q0_11 (Nat.le_of_ble_eq_true rfl)) rfl rfl ?_
  refine pm_R_lo pm_M0 (pc' := 1020) (pm_q0_11 (Nat.le_of_ble_eq_true rfl)) rfl rfl ?_
  refine pm_R_op pm_M0 (pc' := 1021) (st' := [.int 1, .int 0, .ref 0, .ref 16]) (pm_q0_11 (Nat.le_of_ble_eq_true rfl)) rfl rfl ?_
  refine pm_R_op pm_M0 (pc' := 1022) (st' := [.int 1, .ref 0, .ref 16]) (pm_q0_11 (Nat.le_of_ble_eq_true rfl)) rfl rfl ?_
  refine pm_R_iald pm_M0 (pc' := 1023) (v := x1) (pm_q0_11 (Nat.le_of_ble_eq_true rfl)) (hh 0 (Nat.le_of_ble_eq_true rfl)) (Nat.le_of_ble_eq_true rfl) rfl hx1 rfl ?_
  refine pm_R_lo pm_M0 (pc' := 1024) (pm_q0_11 (Nat.le_of_ble_eq_true rfl)) rfl rfl ?_
  refine pm_R_lo pm_M0 (pc' := 1025) (pm_q0_11 (Nat.le_of_ble_eq_true rfl)) rfl rfl ?_
  refine pm_R_op pm_M0 (pc' := 1026) (st' := [.int 2, .int 0, .ref 0, .int x1, .ref 16]) (pm_q0_11 (Nat.le_of_ble_eq_true rfl)) rfl rfl ?_
  refine pm_R_op pm_M0 (pc' := 1027) (st' := [.int 2, .ref 0, .int x1, .ref 16]) (pm_q0_11 (Nat.le_of_ble_eq_true rfl)) rfl rfl ?_
  refine pm_R_iald pm_M0 (pc' := 1028) (v := x2) (pm_q0_11 (Nat.le_of_ble_eq_true rfl)) (hh 0 (Nat.le_of_ble_eq_true rfl)) (Nat.le_of_ble_eq_true rfl) rfl hx2 rfl ?_
  refine pm_R_cv pm_M0 (pc' := 1031) (a := 16) (ra := [.int x2, .int x1]) (rest := []) (ls' := [.ref 16, .int x1, .int x2, pm_no, pm_no, pm_no, pm_no, pm_no, pm_no]) (pm_q0_11 (Nat.le_of_ble_eq_true rfl)) rfl (Or.inl rfl) pm_M113 (hh 16 (Nat.le_of_ble_eq_true rfl)) rfl (Nat.le_of_ble_eq_true rfl) (Nat.le_of_ble_eq_true rfl) rfl rfl (Nat.le_of_ble_eq_true rfl) rfl rfl ?_
  refine pm_R_lo pm_M113 (pc' := 1) rfl rfl rfl ?_
  refine pm_R_lo pm_M113 (pc' := 2) rfl rfl rfl ?_
  refine pm_R_cv pm_M113 (pc' := 5) (a := 16) (ra := [.int x1]) (rest := []) (ls' := [.ref 16, .int x1]) rfl rfl (Or.inl rfl) pm_M62 (hh 16 (Nat.le_of_ble_eq_true rfl)) rfl (Nat.le_of_ble_eq_true rfl) (Nat.le_of_ble_eq_true rfl) rfl rfl (Nat.le_of_ble_eq_true rfl) rfl rfl ?_
  refine pm_R_lo pm_M62 (pc' := 1) rfl rfl rfl ?_
  refine pm_R_ifc pm_M62 (t := 17) (pc' := 4) rfl rfl rfl (fun c_1 => ?_) (fun c_1 => ?_)
  · refine pm_R_op pm_M62 (pc' := 18) (st' := [.null]) rfl rfl rfl ?_
    refine pm_R_br pm_M62 (pc' := 30) rfl rfl ?_
    refine pm_R_ret pm_M62 (r := some (.null)) rfl rfl ?_
    show pm_R _ 113 5 [.ref 16, .int x1, .int x2, pm_no, pm_no, pm_no, pm_no, pm_no, pm_no] [.null] _ _
    refine pm_R_lo pm_M113 (pc' := 6) (ls' := [.ref 16, .int x1, .int x2, .null, pm_no, pm_no, pm_no, pm_no, pm_no]) (st' := []) rfl rfl rfl ?_
    refine pm_R_lo pm_M113 (pc' := 7) rfl rfl rfl ?_
    refine pm_R_lo pm_M113 (pc' := 8) rfl rfl rfl ?_
    refine pm_R_cv pm_M113 (pc' := 11) (a := 16) (ra := [.int x2]) (rest := []) (ls' := [.ref 16, .int x2]) rfl rfl (Or.inl rfl) pm_M66 (hh 16 (Nat.le_of_ble_eq_true rfl)) rfl (Nat.le_of_ble_eq_true rfl) (Nat.le_of_ble_eq_true rfl) rfl rfl (Nat.le_of_ble_eq_true rfl) rfl rfl ?_
    refine pm_R_lo pm_M66 (pc' := 1) rfl rfl rfl ?_
    refine pm_R_ifc pm_M66 (t := 17) (pc' := 4) rfl rfl rfl (fun c_2 => ?_) (fun c_2 => ?_)
    · refine pm_R_op pm_M66 (pc' := 18) (st' := [.null]) rfl rfl rfl ?_
      refine pm_R_br pm_M66 (pc' := 30) rfl rfl ?_
      refine pm_R_ret pm_M66 (r := some (.null)) rfl rfl ?_
      show pm_R _ 113 11 [.ref 16, .int x1, .int x2, .null, pm_no, pm_no, pm_no, pm_no, pm_no] [.null] _ _
      refine pm_R_lo pm_M113 (pc' := 13) (ls' := [.ref 16, .int x1, .int x2, .null, .null, pm_no, pm_no, pm_no, pm_no]) (st' := []) rfl rfl rfl ?_
      refine pm_R_lo pm_M113 (pc' := 14) rfl rfl rfl ?_
      refine pm_R_br pm_M113 (pc' := 22) rfl rfl ?_
      refine pm_R_op pm_M113 (pc' := 23) (st' := [.int (-1)]) rfl rfl rfl ?_
      refine pm_R_ret pm_M113 (r := some (.int (-1))) rfl rfl ?_
      show pm_R _ 0 1031 [.ref 0, .ref 16, .ref 41, .int 0] [.int (-1)] _ _
      refine pm_R_lo pm_M0 (pc' := 1032) (pm_q0_11 (Nat.le_of_ble_eq_true rfl)) rfl rfl ?_
      refine pm_R_lo pm_M0 (pc' := 1033) (pm_q0_11 (Nat.le_of_ble_eq_true rfl)) rfl rfl ?_
      refine pm_R_lo pm_M0 (pc' := 1034) (pm_q0_11 (Nat.le_of_ble_eq_true rfl)) rfl rfl ?_
      refine pm_R_op pm_M0 (pc' := 1035) (st' := [.int 1, .int 0, .ref 0, .ref 41, .int (-1)]) (pm_q0_12 (Nat.le_of_ble_eq_true rfl)) rfl rfl ?_
      refine pm_R_op pm_M0 (pc' := 1036) (st' := [.int 1, .ref 0, .ref 41, .int (-1)]) (pm_q0_12 (Nat.le_of_ble_eq_true rfl)) rfl rfl ?_
      refine pm_R_iald pm_M0 (pc' := 1037) (v := x1) (pm_q0_12 (Nat.le_of_ble_eq_true rfl)) (hh 0 (Nat.le_of_ble_eq_true rfl)) (Nat.le_of_ble_eq_true rfl) rfl hx1 rfl ?_
      refine pm_R_lo pm_M0 (pc' := 1038) (pm_q0_12 (Nat.le_of_ble_eq_true rfl)) rfl rfl ?_
      refine pm_R_lo pm_M0 (pc' := 1039) (pm_q0_12 (Nat.le_of_ble_eq_true rfl)) rfl rfl ?_
      refine pm_R_op pm_M0 (pc' := 1040) (st' := [.int 2, .int 0, .ref 0, .int x1, .ref 41, .int (-1)]) (pm_q0_12 (Nat.le_of_ble_eq_true rfl)) rfl rfl ?_
      refine pm_R_op pm_M0 (pc' := 1041) (st' := [.int 2, .ref 0, .int x1, .ref 41, .int (-1)]) (pm_q0_12 (Nat.le_of_ble_eq_true rfl)) rfl rfl ?_
      refine pm_R_iald pm_M0 (pc' := 1042) (v := x2) (pm_q0_12 (Nat.le_of_ble_eq_true rfl)) (hh 0 (Nat.le_of_ble_eq_true rfl)) (Nat.le_of_ble_eq_true rfl) rfl hx2 rfl ?_
      refine pm_R_cv pm_M0 (pc' := 1045) (a := 41) (ra := [.int x2, .int x1]) (rest := [.int (-1)]) (ls' := [.ref 41, .int x1, .int x2, pm_no, pm_no, pm_no, pm_no, pm_no, pm_no]) (pm_q0_12 (Nat.le_of_ble_eq_true rfl)) rfl (Or.inl rfl) pm_M251 (hh 41 (Nat.le_of_ble_eq_true rfl)) rfl (Nat.le_of_ble_eq_true rfl) (Nat.le_of_ble_eq_true rfl) rfl rfl (Nat.le_of_ble_eq_true rfl) rfl rfl ?_
      refine pm_R_lo pm_M251 (pc' := 1) rfl rfl rfl ?_
      refine pm_R_op pm_M251 (pc' := 2) (st' := [.int 0, .ref 41]) rfl rfl rfl ?_
      refine pm_R_put pm_M251 (pc' := 5) (fs' := [.int 0, .ref 42, .ref 43, .ref 44, .ref 45, .ref 46, .ref 47, .ref 48, .ref 49, .ref 50, .int 0, .int 0, .int 0, .int 0, .int 0, .long 0, .int 0, .int 0, .int 0, .ref 51, .ref 52, .int 0, .int 0, .int 0, .int 0, .ref 53, .int 0, .int 0, .ref 54, .ref 55, .ref 56, .int 0, .ref 57, .ref 58, .ref 59, .ref 60, .ref 61, .ref 62, .ref 63, .ref 64, .ref 65, .ref 66, .int 0, .int 0, .int 0, .ref 67, .ref 68, .int 0, .ref 69, .int 0, .int 0, .ref 70, .ref 71]) rfl rfl rfl (hh 41 (Nat.le_of_ble_eq_true rfl)) (Nat.le_of_ble_eq_true rfl) (Nat.le_of_ble_eq_true rfl) (Nat.le_of_ble_eq_true rfl) rfl (Or.inl rfl) rfl rfl ?_
      refine pm_R_lo pm_M251 (pc' := 6) rfl rfl rfl ?_
      refine pm_R_lo pm_M251 (pc' := 7) rfl rfl rfl ?_
      refine pm_R_lo pm_M251 (pc' := 8) rfl rfl rfl ?_
      refine pm_R_cv pm_M251 (pc' := 11) (a := 41) (ra := [.int x2, .int x1]) (rest := []) (ls' := [.ref 41, .int x1, .int x2]) rfl rfl (Or.inl rfl) pm_M200 rfl rfl (Nat.le_of_ble_eq_true rfl) (Nat.le_of_ble_eq_true rfl) rfl rfl (Nat.le_of_ble_eq_true rfl) rfl rfl ?_
      refine pm_R_lo pm_M200 (pc' := 1) rfl rfl rfl ?_
      refine pm_R_op pm_M200 (pc' := 2) (st' := [.int 0, .ref 41]) rfl rfl rfl ?_
      refine pm_R_lo pm_M200 (pc' := 3) rfl rfl rfl ?_
      refine pm_R_cv pm_M200 (pc' := 6) (a := 41) (ra := [.int x1, .int 0]) (rest := []) (ls' := [.ref 41, .int 0, .int x1]) rfl rfl (Or.inl rfl) pm_M177 rfl rfl (Nat.le_of_ble_eq_true rfl) (Nat.le_of_ble_eq_true rfl) rfl rfl (Nat.le_of_ble_eq_true rfl) rfl rfl ?_
      refine pm_R_lo pm_M177 (pc' := 1) rfl rfl rfl ?_
      refine pm_R_op pm_M177 (pc' := 2) (st' := [.int 0, .int x1]) rfl rfl rfl ?_
      refine pm_R_lo pm_M177 (pc' := 3) rfl rfl rfl ?_
      refine pm_R_get pm_M177 (pc' := 6) (v := .ref 46) rfl rfl rfl (Nat.le_of_ble_eq_true rfl) (Nat.le_of_ble_eq_true rfl) rfl rfl ?_
      refine pm_R_lo pm_M177 (pc' := 7) rfl rfl rfl ?_
      refine pm_R_iald pm_M177 (pc' := 8) (v := 0) rfl (hh 46 (Nat.le_of_ble_eq_true rfl)) (Nat.le_of_ble_eq_true rfl) rfl rfl rfl ?_
      refine pm_R_op pm_M177 (pc' := 9) (st' := [.int 1, .int 0, .int 0, .int x1]) rfl rfl rfl ?_
      refine pm_R_op pm_M177 (pc' := 10) (st' := [.int (-1), .int 0, .int x1]) rfl rfl rfl ?_
      refine pm_R_cs pm_M177 (pc' := 13) (ra := [.int (-1), .int 0, .int x1]) (rest := []) (ls' := [.int x1, .int 0, .int (-1)]) rfl rfl (Or.inl rfl) pm_M174 rfl rfl (Nat.le_of_ble_eq_true rfl) rfl rfl ?_
      refine pm_R_lo pm_M174 (pc' := 1) rfl rfl rfl ?_
      refine pm_R_lo pm_M174 (pc' := 2) rfl rfl rfl ?_
      refine pm_R_icmp pm_M174 (t := 14) (pc' := 5) rfl rfl rfl (fun c_3 => ?_) (fun c_3 => by exact absurd c_1 c_3)
      refine pm_R_op pm_M174 (pc' := 15) (st' := [.int 0]) rfl rfl rfl ?_
      refine pm_R_ret pm_M174 (r := some (.int 0)) rfl rfl ?_
      show pm_R _ 177 13 [.ref 41, .int 0, .int x1] [.int 0] _ _
      refine pm_R_ret pm_M177 (r := some (.int 0)) rfl rfl ?_
      show pm_R _ 200 6 [.ref 41, .int x1, .int x2] [.int 0] _ _
      refine pm_R_br pm_M200 (pc' := 18) (st' := []) rfl rfl ?_
      refine pm_R_op pm_M200 (pc' := 19) (st' := [.int 0]) rfl rfl rfl ?_
      refine pm_R_ret pm_M200 (r := some (.int 0)) rfl rfl ?_
      show pm_R _ 251 11 [.ref 41, .int x1, .int x2, pm_no, pm_no, pm_no, pm_no, pm_no, pm_no] [.int 0] _ _
      refine pm_R_br pm_M251 (pc' := 14) (st' := []) rfl rfl ?_
      refine pm_R_op pm_M251 (pc' := 15) (st' := [.int (-1)]) rfl rfl rfl ?_
      refine pm_R_ret pm_M251 (r := some (.int (-1))) rfl rfl ?_
      show pm_R _ 0 1045 [.ref 0, .ref 16, .ref 41, .int 0] [.int (-1), .int (-1)] _ _
      refine pm_R_br pm_M0 (pc' := 2121) (st' := []) (pm_q0_12 (Nat.le_of_ble_eq_true rfl)) rfl ?_
      exact p1_tail (hh 0 (Nat.le_of_ble_eq_true rfl)) (Nat.le_of_ble_eq_true rfl) (Nat.le_of_ble_eq_true rfl) (Nat.le_of_ble_eq_true rfl)
    · refine pm_R_lo pm_M66 (pc' := 5) rfl rfl rfl ?_
      refine pm_R_lo pm_M66 (pc' := 6) rfl rfl rfl ?_
      refine pm_R_get pm_M66 (pc' := 9) (v := .ref 17) rfl rfl (hh 16 (Nat.le_of_ble_eq_true rfl)) (Nat.le_of_ble_eq_true rfl) (Nat.le_of_ble_eq_true rfl) rfl rfl ?_
      refine pm_R_get pm_M66 (pc' := 12) (v := .ref 23) rfl rfl (hh 17 (Nat.le_of_ble_eq_true rfl)) (Nat.le_of_ble_eq_true rfl) (Nat.le_of_ble_eq_true rfl) rfl rfl ?_
      refine pm_R_op pm_M66 (pc' := 13) (st' := [.int 1, .ref 23, .int x2]) rfl rfl rfl ?_
      refine pm_R_iald pm_M66 (pc' := 14) (v := 0) rfl (hh 23 (Nat.le_of_ble_eq_true rfl)) (Nat.le_of_ble_eq_true rfl) rfl rfl rfl ?_
      refine pm_R_icmp pm_M66 (t := 21) (pc' := 17) rfl rfl rfl (fun c_4 => by exact absurd c_4 c_2) (fun c_4 => ?_)
      refine pm_R_op pm_M66 (pc' := 18) (st' := [.null]) rfl rfl rfl ?_
      refine pm_R_br pm_M66 (pc' := 30) rfl rfl ?_
      refine pm_R_ret pm_M66 (r := some (.null)) rfl rfl ?_
      show pm_R _ 113 11 [.ref 16, .int x1, .int x2, .null, pm_no, pm_no, pm_no, pm_no, pm_no] [.null] _ _
      refine pm_R_lo pm_M113 (pc' := 13) (ls' := [.ref 16, .int x1, .int x2, .null, .null, pm_no, pm_no, pm_no, pm_no]) (st' := []) rfl rfl rfl ?_
      refine pm_R_lo pm_M113 (pc' := 14) rfl rfl rfl ?_
      refine pm_R_br pm_M113 (pc' := 22) rfl rfl ?_
      refine pm_R_op pm_M113 (pc' := 23) (st' := [.int (-1)]) rfl rfl rfl ?_
      refine pm_R_ret pm_M113 (r := some (.int (-1))) rfl rfl ?_
      show pm_R _ 0 1031 [.ref 0, .ref 16, .ref 41, .int 0] [.int (-1)] _ _
      refine pm_R_lo pm_M0 (pc' := 1032) (pm_q0_11 (Nat.le_of_ble_eq_true rfl)) rfl rfl ?_
      refine pm_R_lo pm_M0 (pc' := 1033) (pm_q0_11 (Nat.le_of_ble_eq_true rfl)) rfl rfl ?_
      refine pm_R_lo pm_M0 (pc' := 1034) (pm_q0_11 (Nat.le_of_ble_eq_true rfl)) rfl rfl ?_
      refine pm_R_op pm_M0 (pc' := 1035) (st' := [.int 1, .int 0, .ref 0, .ref 41, .int (-1)]) (pm_q0_12 (Nat.le_of_ble_eq_true rfl)) rfl rfl ?_
      refine pm_R_op pm_M0 (pc' := 1036) (st' := [.int 1, .ref 0, .ref 41, .int (-1)]) (pm_q0_12 (Nat.le_of_ble_eq_true rfl)) rfl rfl ?_
      refine pm_R_iald pm_M0 (pc' := 1037) (v := x1) (pm_q0_12 (Nat.le_of_ble_eq_true rfl)) (hh 0 (Nat.le_of_ble_eq_true rfl)) (Nat.le_of_ble_eq_true rfl) rfl hx1 rfl ?_
      refine pm_R_lo pm_M0 (pc' := 1038) (pm_q0_12 (Nat.le_of_ble_eq_true rfl)) rfl rfl ?_
      refine pm_R_lo pm_M0 (pc' := 1039) (pm_q0_12 (Nat.le_of_ble_eq_true rfl)) rfl rfl ?_
      refine pm_R_op pm_M0 (pc' := 1040) (st' := [.int 2, .int 0, .ref 0, .int x1, .ref 41, .int (-1)]) (pm_q0_12 (Nat.le_of_ble_eq_true rfl)) rfl rfl ?_
      refine pm_R_op pm_M0 (pc' := 1041) (st' := [.int 2, .ref 0, .int x1, .ref 41, .int (-1)]) (pm_q0_12 (Nat.le_of_ble_eq_true rfl)) rfl rfl ?_
      refine pm_R_iald pm_M0 (pc' := 1042) (v := x2) (pm_q0_12 (Nat.le_of_ble_eq_true rfl)) (hh 0 (Nat.le_of_ble_eq_true rfl)) (Nat.le_of_ble_eq_true rfl) rfl hx2 rfl ?_
      refine pm_R_cv pm_M0 (pc' := 1045) (a := 41) (ra := [.int x2, .int x1]) (rest := [.int (-1)]) (ls' := [.ref 41, .int x1, .int x2, pm_no, pm_no, pm_no, pm_no, pm_no, pm_no]) (pm_q0_12 (Nat.le_of_ble_eq_true rfl)) rfl (Or.inl rfl) pm_M251 (hh 41 (Nat.le_of_ble_eq_true rfl)) rfl (Nat.le_of_ble_eq_true rfl) (Nat.le_of_ble_eq_true rfl) rfl rfl (Nat.le_of_ble_eq_true rfl) rfl rfl ?_
      refine pm_R_lo pm_M251 (pc' := 1) rfl rfl rfl ?_
      refine pm_R_op pm_M251 (pc' := 2) (st' := [.int 0, .ref 41]) rfl rfl rfl ?_
      refine pm_R_put pm_M251 (pc' := 5) (fs' := [.int 0, .ref 42, .ref 43, .ref 44, .ref 45, .ref 46, .ref 47, .ref 48, .ref 49, .ref 50, .int 0, .int 0, .int 0, .int 0, .int 0, .long 0, .int 0, .int 0, .int 0, .ref 51, .ref 52, .int 0, .int 0, .int 0, .int 0, .ref 53, .int 0, .int 0, .ref 54, .ref 55, .ref 56, .int 0, .ref 57, .ref 58, .ref 59, .ref 60, .ref 61, .ref 62, .ref 63, .ref 64, .ref 65, .ref 66, .int 0, .int 0, .int 0, .ref 67, .ref 68, .int 0, .ref 69, .int 0, .int 0, .ref 70, .ref 71]) rfl rfl rfl (hh 41 (Nat.le_of_ble_eq_true rfl)) (Nat.le_of_ble_eq_true rfl) (Nat.le_of_ble_eq_true rfl) (Nat.le_of_ble_eq_true rfl) rfl (Or.inl rfl) rfl rfl ?_
      refine pm_R_lo pm_M251 (pc' := 6) rfl rfl rfl ?_
      refine pm_R_lo pm_M251 (pc' := 7) rfl rfl rfl ?_
      refine pm_R_lo pm_M251 (pc' := 8) rfl rfl rfl ?_
      refine pm_R_cv pm_M251 (pc' := 11) (a := 41) (ra := [.int x2, .int x1]) (rest := []) (ls' := [.ref 41, .int x1, .int x2]) rfl rfl (Or.inl rfl) pm_M200 rfl rfl (Nat.le_of_ble_eq_true rfl) (Nat.le_of_ble_eq_true rfl) rfl rfl (Nat.le_of_ble_eq_true rfl) rfl rfl ?_
      refine pm_R_lo pm_M200 (pc' := 1) rfl rfl rfl ?_
      refine pm_R_op pm_M200 (pc' := 2) (st' := [.int 0, .ref 41]) rfl rfl rfl ?_
      refine pm_R_lo pm_M200 (pc' := 3) rfl rfl rfl ?_
      refine pm_R_cv pm_M200 (pc' := 6) (a := 41) (ra := [.int x1, .int 0]) (rest := []) (ls' := [.ref 41, .int 0, .int x1]) rfl rfl (Or.inl rfl) pm_M177 rfl rfl (Nat.le_of_ble_eq_true rfl) (Nat.le_of_ble_eq_true rfl) rfl rfl (Nat.le_of_ble_eq_true rfl) rfl rfl ?_
      refine pm_R_lo pm_M177 (pc' := 1) rfl rfl rfl ?_
      refine pm_R_op pm_M177 (pc' := 2) (st' := [.int 0, .int x1]) rfl rfl rfl ?_
      refine pm_R_lo pm_M177 (pc' := 3) rfl rfl rfl ?_
      refine pm_R_get pm_M177 (pc' := 6) (v := .ref 46) rfl rfl rfl (Nat.le_of_ble_eq_true rfl) (Nat.le_of_ble_eq_true rfl) rfl rfl ?_
      refine pm_R_lo pm_M177 (pc' := 7) rfl rfl rfl ?_
      refine pm_R_iald pm_M177 (pc' := 8) (v := 0) rfl (hh 46 (Nat.le_of_ble_eq_true rfl)) (Nat.le_of_ble_eq_true rfl) rfl rfl rfl ?_
      refine pm_R_op pm_M177 (pc' := 9) (st' := [.int 1, .int 0, .int 0, .int x1]) rfl rfl rfl ?_
      refine pm_R_op pm_M177 (pc' := 10) (st' := [.int (-1), .int 0, .int x1]) rfl rfl rfl ?_
      refine pm_R_cs pm_M177 (pc' := 13) (ra := [.int (-1), .int 0, .int x1]) (rest := []) (ls' := [.int x1, .int 0, .int (-1)]) rfl rfl (Or.inl rfl) pm_M174 rfl rfl (Nat.le_of_ble_eq_true rfl) rfl rfl ?_
      refine pm_R_lo pm_M174 (pc' := 1) rfl rfl rfl ?_
      refine pm_R_lo pm_M174 (pc' := 2) rfl rfl rfl ?_
      refine pm_R_icmp pm_M174 (t := 14) (pc' := 5) rfl rfl rfl (fun c_5 => ?_) (fun c_5 => by exact absurd c_1 c_5)
      refine pm_R_op pm_M174 (pc' := 15) (st' := [.int 0]) rfl rfl rfl ?_
      refine pm_R_ret pm_M174 (r := some (.int 0)) rfl rfl ?_
      show pm_R _ 177 13 [.ref 41, .int 0, .int x1] [.int 0] _ _
      refine pm_R_ret pm_M177 (r := some (.int 0)) rfl rfl ?_
      show pm_R _ 200 6 [.ref 41, .int x1, .int x2] [.int 0] _ _
      refine pm_R_br pm_M200 (pc' := 18) (st' := []) rfl rfl ?_
      refine pm_R_op pm_M200 (pc' := 19) (st' := [.int 0]) rfl rfl rfl ?_
      refine pm_R_ret pm_M200 (r := some (.int 0)) rfl rfl ?_
      show pm_R _ 251 11 [.ref 41, .int x1, .int x2, pm_no, pm_no, pm_no, pm_no, pm_no, pm_no] [.int 0] _ _
      refine pm_R_br pm_M251 (pc' := 14) (st' := []) rfl rfl ?_
      refine pm_R_op pm_M251 (pc' := 15) (st' := [.int (-1)]) rfl rfl rfl ?_
      refine pm_R_ret pm_M251 (r := some (.int (-1))) rfl rfl ?_
      show pm_R _ 0 1045 [.ref 0, .ref 16, .ref 41, .int 0] [.int (-1), .int (-1)] _ _
      refine pm_R_br pm_M0 (pc' := 2121) (st' := []) (pm_q0_12 (Nat.le_of_ble_eq_true rfl)) rfl ?_
      exact p1_tail (hh 0 (Nat.le_of_ble_eq_true rfl)) (Nat.le_of_ble_eq_true rfl) (Nat.le_of_ble_eq_true rfl) (Nat.le_of_ble_eq_true rfl)
  · refine pm_R_lo pm_M62 (pc' := 5) rfl rfl rfl ?_
    refine pm_R_lo pm_M62 (pc' := 6) rfl rfl rfl ?_
    refine pm_R_get pm_M62 (pc' := 9) (v := .ref 17) rfl rfl (hh 16 (Nat.le_of_ble_eq_true rfl)) (Nat.le_of_ble_eq_true rfl) (Nat.le_of_ble_eq_true rfl) rfl rfl ?_
    refine pm_R_get pm_M62 (pc' := 12) (v := .ref 23) rfl rfl (hh 17 (Nat.le_of_ble_eq_true rfl)) (Nat.le_of_ble_eq_true rfl) (Nat.le_of_ble_eq_true rfl) rfl rfl ?_
    refine pm_R_op pm_M62 (pc' := 13) (st' := [.int 0, .ref 23, .int x1]) rfl rfl rfl ?_
    refine pm_R_iald pm_M62 (pc' := 14) (v := 0) rfl (hh 23 (Nat.le_of_ble_eq_true rfl)) (Nat.le_of_ble_eq_true rfl) rfl rfl rfl ?_
    refine pm_R_icmp pm_M62 (t := 21) (pc' := 17) rfl rfl rfl (fun c_6 => by exact absurd c_6 c_1) (fun c_6 => ?_)
    refine pm_R_op pm_M62 (pc' := 18) (st' := [.null]) rfl rfl rfl ?_
    refine pm_R_br pm_M62 (pc' := 30) rfl rfl ?_
    refine pm_R_ret pm_M62 (r := some (.null)) rfl rfl ?_
    show pm_R _ 113 5 [.ref 16, .int x1, .int x2, pm_no, pm_no, pm_no, pm_no, pm_no, pm_no] [.null] _ _
    refine pm_R_lo pm_M113 (pc' := 6) (ls' := [.ref 16, .int x1, .int x2, .null, pm_no, pm_no, pm_no, pm_no, pm_no]) (st' := []) rfl rfl rfl ?_
    refine pm_R_lo pm_M113 (pc' := 7) rfl rfl rfl ?_
    refine pm_R_lo pm_M113 (pc' := 8) rfl rfl rfl ?_
    refine pm_R_cv pm_M113 (pc' := 11) (a := 16) (ra := [.int x2]) (rest := []) (ls' := [.ref 16, .int x2]) rfl rfl (Or.inl rfl) pm_M66 (hh 16 (Nat.le_of_ble_eq_true rfl)) rfl (Nat.le_of_ble_eq_true rfl) (Nat.le_of_ble_eq_true rfl) rfl rfl (Nat.le_of_ble_eq_true rfl) rfl rfl ?_
    refine pm_R_lo pm_M66 (pc' := 1) rfl rfl rfl ?_
    refine pm_R_ifc pm_M66 (t := 17) (pc' := 4) rfl rfl rfl (fun c_7 => ?_) (fun c_7 => ?_)
    · refine pm_R_op pm_M66 (pc' := 18) (st' := [.null]) rfl rfl rfl ?_
      refine pm_R_br pm_M66 (pc' := 30) rfl rfl ?_
      refine pm_R_ret pm_M66 (r := some (.null)) rfl rfl ?_
      show pm_R _ 113 11 [.ref 16, .int x1, .int x2, .null, pm_no, pm_no, pm_no, pm_no, pm_no] [.null] _ _
      refine pm_R_lo pm_M113 (pc' := 13) (ls' := [.ref 16, .int x1, .int x2, .null, .null, pm_no, pm_no, pm_no, pm_no]) (st' := []) rfl rfl rfl ?_
      refine pm_R_lo pm_M113 (pc' := 14) rfl rfl rfl ?_
      refine pm_R_br pm_M113 (pc' := 22) rfl rfl ?_
      refine pm_R_op pm_M113 (pc' := 23) (st' := [.int (-1)]) rfl rfl rfl ?_
      refine pm_R_ret pm_M113 (r := some (.int (-1))) rfl rfl ?_
      show pm_R _ 0 1031 [.ref 0, .ref 16, .ref 41, .int 0] [.int (-1)] _ _
      refine pm_R_lo pm_M0 (pc' := 1032) (pm_q0_11 (Nat.le_of_ble_eq_true rfl)) rfl rfl ?_
      refine pm_R_lo pm_M0 (pc' := 1033) (pm_q0_11 (Nat.le_of_ble_eq_true rfl)) rfl rfl ?_
      refine pm_R_lo pm_M0 (pc' := 1034) (pm_q0_11 (Nat.le_of_ble_eq_true rfl)) rfl rfl ?_
      refine pm_R_op pm_M0 (pc' := 1035) (st' := [.int 1, .int 0, .ref 0, .ref 41, .int (-1)]) (pm_q0_12 (Nat.le_of_ble_eq_true rfl)) rfl rfl ?_
      refine pm_R_op pm_M0 (pc' := 1036) (st' := [.int 1, .ref 0, .ref 41, .int (-1)]) (pm_q0_12 (Nat.le_of_ble_eq_true rfl)) rfl rfl ?_
      refine pm_R_iald pm_M0 (pc' := 1037) (v := x1) (pm_q0_12 (Nat.le_of_ble_eq_true rfl)) (hh 0 (Nat.le_of_ble_eq_true rfl)) (Nat.le_of_ble_eq_true rfl) rfl hx1 rfl ?_
      refine pm_R_lo pm_M0 (pc' := 1038) (pm_q0_12 (Nat.le_of_ble_eq_true rfl)) rfl rfl ?_
      refine pm_R_lo pm_M0 (pc' := 1039) (pm_q0_12 (Nat.le_of_ble_eq_true rfl)) rfl rfl ?_
      refine pm_R_op pm_M0 (pc' := 1040) (st' := [.int 2, .int 0, .ref 0, .int x1, .ref 41, .int (-1)]) (pm_q0_12 (Nat.le_of_ble_eq_true rfl)) rfl rfl ?_
      refine pm_R_op pm_M0 (pc' := 1041) (st' := [.int 2, .ref 0, .int x1, .ref 41, .int (-1)]) (pm_q0_12 (Nat.le_of_ble_eq_true rfl)) rfl rfl ?_
      refine pm_R_iald pm_M0 (pc' := 1042) (v := x2) (pm_q0_12 (Nat.le_of_ble_eq_true rfl)) (hh 0 (Nat.le_of_ble_eq_true rfl)) (Nat.le_of_ble_eq_true rfl) rfl hx2 rfl ?_
      refine pm_R_cv pm_M0 (pc' := 1045) (a := 41) (ra := [.int x2, .int x1]) (rest := [.int (-1)]) (ls' := [.ref 41, .int x1, .int x2, pm_no, pm_no, pm_no, pm_no, pm_no, pm_no]) (pm_q0_12 (Nat.le_of_ble_eq_true rfl)) rfl (Or.inl rfl) pm_M251 (hh 41 (Nat.le_of_ble_eq_true rfl)) rfl (Nat.le_of_ble_eq_true rfl) (Nat.le_of_ble_eq_true rfl) rfl rfl (Nat.le_of_ble_eq_true rfl) rfl rfl ?_
      refine pm_R_lo pm_M251 (pc' := 1) rfl rfl rfl ?_
      refine pm_R_op pm_M251 (pc' := 2) (st' := [.int 0, .ref 41]) rfl rfl rfl ?_
      refine pm_R_put pm_M251 (pc' := 5) (fs' := [.int 0, .ref 42, .ref 43, .ref 44, .ref 45, .ref 46, .ref 47, .ref 48, .ref 49, .ref 50, .int 0, .int 0, .int 0, .int 0, .int 0, .long 0, .int 0, .int 0, .int 0, .ref 51, .ref 52, .int 0, .int 0, .int 0, .int 0, .ref 53, .int 0, .int 0, .ref 54, .ref 55, .ref 56, .int 0, .ref 57, .ref 58, .ref 59, .ref 60, .ref 61, .ref 62, .ref 63, .ref 64, .ref 65, .ref 66, .int 0, .int 0, .int 0, .ref 67, .ref 68, .int 0, .ref 69, .int 0, .int 0, .ref 70, .ref 71]) rfl rfl rfl (hh 41 (Nat.le_of_ble_eq_true rfl)) (Nat.le_of_ble_eq_true rfl) (Nat.le_of_ble_eq_true rfl) (Nat.le_of_ble_eq_true rfl) rfl (Or.inl rfl) rfl rfl ?_
      refine pm_R_lo pm_M251 (pc' := 6) rfl rfl rfl ?_
      refine pm_R_lo pm_M251 (pc' := 7) rfl rfl rfl ?_
      refine pm_R_lo pm_M251 (pc' := 8) rfl rfl rfl ?_
      refine pm_R_cv pm_M251 (pc' := 11) (a := 41) (ra := [.int x2, .int x1]) (rest := []) (ls' := [.ref 41, .int x1, .int x2]) rfl rfl (Or.inl rfl) pm_M200 rfl rfl (Nat.le_of_ble_eq_true rfl) (Nat.le_of_ble_eq_true rfl) rfl rfl (Nat.le_of_ble_eq_true rfl) rfl rfl ?_
      refine pm_R_lo pm_M200 (pc' := 1) rfl rfl rfl ?_
      refine pm_R_op pm_M200 (pc' := 2) (st' := [.int 0, .ref 41]) rfl rfl rfl ?_
      refine pm_R_lo pm_M200 (pc' := 3) rfl rfl rfl ?_
      refine pm_R_cv pm_M200 (pc' := 6) (a := 41) (ra := [.int x1, .int 0]) (rest := []) (ls' := [.ref 41, .int 0, .int x1]) rfl rfl (Or.inl rfl) pm_M177 rfl rfl (Nat.le_of_ble_eq_true rfl) (Nat.le_of_ble_eq_true rfl) rfl rfl (Nat.le_of_ble_eq_true rfl) rfl rfl ?_
      refine pm_R_lo pm_M177 (pc' := 1) rfl rfl rfl ?_
      refine pm_R_op pm_M177 (pc' := 2) (st' := [.int 0, .int x1]) rfl rfl rfl ?_
      refine pm_R_lo pm_M177 (pc' := 3) rfl rfl rfl ?_
      refine pm_R_get pm_M177 (pc' := 6) (v := .ref 46) rfl rfl rfl (Nat.le_of_ble_eq_true rfl) (Nat.le_of_ble_eq_true rfl) rfl rfl ?_
      refine pm_R_lo pm_M177 (pc' := 7) rfl rfl rfl ?_
      refine pm_R_iald pm_M177 (pc' := 8) (v := 0) rfl (hh 46 (Nat.le_of_ble_eq_true rfl)) (Nat.le_of_ble_eq_true rfl) rfl rfl rfl ?_
      refine pm_R_op pm_M177 (pc' := 9) (st' := [.int 1, .int 0, .int 0, .int x1]) rfl rfl rfl ?_
      refine pm_R_op pm_M177 (pc' := 10) (st' := [.int (-1), .int 0, .int x1]) rfl rfl rfl ?_
      refine pm_R_cs pm_M177 (pc' := 13) (ra := [.int (-1), .int 0, .int x1]) (rest := []) (ls' := [.int x1, .int 0, .int (-1)]) rfl rfl (Or.inl rfl) pm_M174 rfl rfl (Nat.le_of_ble_eq_true rfl) rfl rfl ?_
      refine pm_R_lo pm_M174 (pc' := 1) rfl rfl rfl ?_
      refine pm_R_lo pm_M174 (pc' := 2) rfl rfl rfl ?_
      refine pm_R_icmp pm_M174 (t := 14) (pc' := 5) rfl rfl rfl (fun c_8 => by exact absurd c_8 c_1) (fun c_8 => ?_)
      refine pm_R_lo pm_M174 (pc' := 6) rfl rfl rfl ?_
      refine pm_R_lo pm_M174 (pc' := 7) rfl rfl rfl ?_
      refine pm_R_icmp pm_M174 (t := 14) (pc' := 10) rfl rfl rfl (fun c_9 => ?_) (fun c_9 => by have z0 : ((-1) : Int32).toInt = -1 := (by decide); have z1 : ((0) : Int32).toInt = 0 := (by decide); have q0 := (Int32.le_iff_toInt_le.mp (Int32.not_lt.mp c_1)); have q1 := (Int32.le_iff_toInt_le.mp (Int32.not_lt.mp c_9)); exfalso; omega)
      refine pm_R_op pm_M174 (pc' := 15) (st' := [.int 0]) rfl rfl rfl ?_
      refine pm_R_ret pm_M174 (r := some (.int 0)) rfl rfl ?_
      show pm_R _ 177 13 [.ref 41, .int 0, .int x1] [.int 0] _ _
      refine pm_R_ret pm_M177 (r := some (.int 0)) rfl rfl ?_
      show pm_R _ 200 6 [.ref 41, .int x1, .int x2] [.int 0] _ _
      refine pm_R_br pm_M200 (pc' := 18) (st' := []) rfl rfl ?_
      refine pm_R_op pm_M200 (pc' := 19) (st' := [.int 0]) rfl rfl rfl ?_
      refine pm_R_ret pm_M200 (r := some (.int 0)) rfl rfl ?_
      show pm_R _ 251 11 [.ref 41, .int x1, .int x2, pm_no, pm_no, pm_no, pm_no, pm_no, pm_no] [.int 0] _ _
      refine pm_R_br pm_M251 (pc' := 14) (st' := []) rfl rfl ?_
      refine pm_R_op pm_M251 (pc' := 15) (st' := [.int (-1)]) rfl rfl rfl ?_
      refine pm_R_ret pm_M251 (r := some (.int (-1))) rfl rfl ?_
      show pm_R _ 0 1045 [.ref 0, .ref 16, .ref 41, .int 0] [.int (-1), .int (-1)] _ _
      refine pm_R_br pm_M0 (pc' := 2121) (st' := []) (pm_q0_12 (Nat.le_of_ble_eq_true rfl)) rfl ?_
      exact p1_tail (hh 0 (Nat.le_of_ble_eq_true rfl)) (Nat.le_of_ble_eq_true rfl) (Nat.le_of_ble_eq_true rfl) (Nat.le_of_ble_eq_true rfl)
    · refine pm_R_lo pm_M66 (pc' := 5) rfl rfl rfl ?_
      refine pm_R_lo pm_M66 (pc' := 6) rfl rfl rfl ?_
      refine pm_R_get pm_M66 (pc' := 9) (v := .ref 17) rfl rfl (hh 16 (Nat.le_of_ble_eq_true rfl)) (Nat.le_of_ble_eq_true rfl) (Nat.le_of_ble_eq_true rfl) rfl rfl ?_
      refine pm_R_get pm_M66 (pc' := 12) (v := .ref 23) rfl rfl (hh 17 (Nat.le_of_ble_eq_true rfl)) (Nat.le_of_ble_eq_true rfl) (Nat.le_of_ble_eq_true rfl) rfl rfl ?_
      refine pm_R_op pm_M66 (pc' := 13) (st' := [.int 1, .ref 23, .int x2]) rfl rfl rfl ?_
      refine pm_R_iald pm_M66 (pc' := 14) (v := 0) rfl (hh 23 (Nat.le_of_ble_eq_true rfl)) (Nat.le_of_ble_eq_true rfl) rfl rfl rfl ?_
      refine pm_R_icmp pm_M66 (t := 21) (pc' := 17) rfl rfl rfl (fun c_10 => by exact absurd c_10 c_7) (fun c_10 => ?_)
      refine pm_R_op pm_M66 (pc' := 18) (st' := [.null]) rfl rfl rfl ?_
      refine pm_R_br pm_M66 (pc' := 30) rfl rfl ?_
      refine pm_R_ret pm_M66 (r := some (.null)) rfl rfl ?_
      show pm_R _ 113 11 [.ref 16, .int x1, .int x2, .null, pm_no, pm_no, pm_no, pm_no, pm_no] [.null] _ _
      refine pm_R_lo pm_M113 (pc' := 13) (ls' := [.ref 16, .int x1, .int x2, .null, .null, pm_no, pm_no, pm_no, pm_no]) (st' := []) rfl rfl rfl ?_
      refine pm_R_lo pm_M113 (pc' := 14) rfl rfl rfl ?_
      refine pm_R_br pm_M113 (pc' := 22) rfl rfl ?_
      refine pm_R_op pm_M113 (pc' := 23) (st' := [.int (-1)]) rfl rfl rfl ?_
      refine pm_R_ret pm_M113 (r := some (.int (-1))) rfl rfl ?_
      show pm_R _ 0 1031 [.ref 0, .ref 16, .ref 41, .int 0] [.int (-1)] _ _
      refine pm_R_lo pm_M0 (pc' := 1032) (pm_q0_11 (Nat.le_of_ble_eq_true rfl)) rfl rfl ?_
      refine pm_R_lo pm_M0 (pc' := 1033) (pm_q0_11 (Nat.le_of_ble_eq_true rfl)) rfl rfl ?_
      refine pm_R_lo pm_M0 (pc' := 1034) (pm_q0_11 (Nat.le_of_ble_eq_true rfl)) rfl rfl ?_
      refine pm_R_op pm_M0 (pc' := 1035) (st' := [.int 1, .int 0, .ref 0, .ref 41, .int (-1)]) (pm_q0_12 (Nat.le_of_ble_eq_true rfl)) rfl rfl ?_
      refine pm_R_op pm_M0 (pc' := 1036) (st' := [.int 1, .ref 0, .ref 41, .int (-1)]) (pm_q0_12 (Nat.le_of_ble_eq_true rfl)) rfl rfl ?_
      refine pm_R_iald pm_M0 (pc' := 1037) (v := x1) (pm_q0_12 (Nat.le_of_ble_eq_true rfl)) (hh 0 (Nat.le_of_ble_eq_true rfl)) (Nat.le_of_ble_eq_true rfl) rfl hx1 rfl ?_
      refine pm_R_lo pm_M0 (pc' := 1038) (pm_q0_12 (Nat.le_of_ble_eq_true rfl)) rfl rfl ?_
      refine pm_R_lo pm_M0 (pc' := 1039) (pm_q0_12 (Nat.le_of_ble_eq_true rfl)) rfl rfl ?_
      refine pm_R_op pm_M0 (pc' := 1040) (st' := [.int 2, .int 0, .ref 0, .int x1, .ref 41, .int (-1)]) (pm_q0_12 (Nat.le_of_ble_eq_true rfl)) rfl rfl ?_
      refine pm_R_op pm_M0 (pc' := 1041) (st' := [.int 2, .ref 0, .int x1, .ref 41, .int (-1)]) (pm_q0_12 (Nat.le_of_ble_eq_true rfl)) rfl rfl ?_
      refine pm_R_iald pm_M0 (pc' := 1042) (v := x2) (pm_q0_12 (Nat.le_of_ble_eq_true rfl)) (hh 0 (Nat.le_of_ble_eq_true rfl)) (Nat.le_of_ble_eq_true rfl) rfl hx2 rfl ?_
      refine pm_R_cv pm_M0 (pc' := 1045) (a := 41) (ra := [.int x2, .int x1]) (rest := [.int (-1)]) (ls' := [.ref 41, .int x1, .int x2, pm_no, pm_no, pm_no, pm_no, pm_no, pm_no]) (pm_q0_12 (Nat.le_of_ble_eq_true rfl)) rfl (Or.inl rfl) pm_M251 (hh 41 (Nat.le_of_ble_eq_true rfl)) rfl (Nat.le_of_ble_eq_true rfl) (Nat.le_of_ble_eq_true rfl) rfl rfl (Nat.le_of_ble_eq_true rfl) rfl rfl ?_
      refine pm_R_lo pm_M251 (pc' := 1) rfl rfl rfl ?_
      refine pm_R_op pm_M251 (pc' := 2) (st' := [.int 0, .ref 41]) rfl rfl rfl ?_
      refine pm_R_put pm_M251 (pc' := 5) (fs' := [.int 0, .ref 42, .ref 43, .ref 44, .ref 45, .ref 46, .ref 47, .ref 48, .ref 49, .ref 50, .int 0, .int 0, .int 0, .int 0, .int 0, .long 0, .int 0, .int 0, .int 0, .ref 51, .ref 52, .int 0, .int 0, .int 0, .int 0, .ref 53, .int 0, .int 0, .ref 54, .ref 55, .ref 56, .int 0, .ref 57, .ref 58, .ref 59, .ref 60, .ref 61, .ref 62, .ref 63, .ref 64, .ref 65, .ref 66, .int 0, .int 0, .int 0, .ref 67, .ref 68, .int 0, .ref 69, .int 0, .int 0, .ref 70, .ref 71]) rfl rfl rfl (hh 41 (Nat.le_of_ble_eq_true rfl)) (Nat.le_of_ble_eq_true rfl) (Nat.le_of_ble_eq_true rfl) (Nat.le_of_ble_eq_true rfl) rfl (Or.inl rfl) rfl rfl ?_
      refine pm_R_lo pm_M251 (pc' := 6) rfl rfl rfl ?_
      refine pm_R_lo pm_M251 (pc' := 7) rfl rfl rfl ?_
      refine pm_R_lo pm_M251 (pc' := 8) rfl rfl rfl ?_
      refine pm_R_cv pm_M251 (pc' := 11) (a := 41) (ra := [.int x2, .int x1]) (rest := []) (ls' := [.ref 41, .int x1, .int x2]) rfl rfl (Or.inl rfl) pm_M200 rfl rfl (Nat.le_of_ble_eq_true rfl) (Nat.le_of_ble_eq_true rfl) rfl rfl (Nat.le_of_ble_eq_true rfl) rfl rfl ?_
      refine pm_R_lo pm_M200 (pc' := 1) rfl rfl rfl ?_
      refine pm_R_op pm_M200 (pc' := 2) (st' := [.int 0, .ref 41]) rfl rfl rfl ?_
      refine pm_R_lo pm_M200 (pc' := 3) rfl rfl rfl ?_
      refine pm_R_cv pm_M200 (pc' := 6) (a := 41) (ra := [.int x1, .int 0]) (rest := []) (ls' := [.ref 41, .int 0, .int x1]) rfl rfl (Or.inl rfl) pm_M177 rfl rfl (Nat.le_of_ble_eq_true rfl) (Nat.le_of_ble_eq_true rfl) rfl rfl (Nat.le_of_ble_eq_true rfl) rfl rfl ?_
      refine pm_R_lo pm_M177 (pc' := 1) rfl rfl rfl ?_
      refine pm_R_op pm_M177 (pc' := 2) (st' := [.int 0, .int x1]) rfl rfl rfl ?_
      refine pm_R_lo pm_M177 (pc' := 3) rfl rfl rfl ?_
      refine pm_R_get pm_M177 (pc' := 6) (v := .ref 46) rfl rfl rfl (Nat.le_of_ble_eq_true rfl) (Nat.le_of_ble_eq_true rfl) rfl rfl ?_
      refine pm_R_lo pm_M177 (pc' := 7) rfl rfl rfl ?_
      refine pm_R_iald pm_M177 (pc' := 8) (v := 0) rfl (hh 46 (Nat.le_of_ble_eq_true rfl)) (Nat.le_of_ble_eq_true rfl) rfl rfl rfl ?_
      refine pm_R_op pm_M177 (pc' := 9) (st' := [.int 1, .int 0, .int 0, .int x1]) rfl rfl rfl ?_
      refine pm_R_op pm_M177 (pc' := 10) (st' := [.int (-1), .int 0, .int x1]) rfl rfl rfl ?_
      refine pm_R_cs pm_M177 (pc' := 13) (ra := [.int (-1), .int 0, .int x1]) (rest := []) (ls' := [.int x1, .int 0, .int (-1)]) rfl rfl (Or.inl rfl) pm_M174 rfl rfl (Nat.le_of_ble_eq_true rfl) rfl rfl ?_
      refine pm_R_lo pm_M174 (pc' := 1) rfl rfl rfl ?_
      refine pm_R_lo pm_M174 (pc' := 2) rfl rfl rfl ?_
      refine pm_R_icmp pm_M174 (t := 14) (pc' := 5) rfl rfl rfl (fun c_11 => by exact absurd c_11 c_1) (fun c_11 => ?_)
      refine pm_R_lo pm_M174 (pc' := 6) rfl rfl rfl ?_
      refine pm_R_lo pm_M174 (pc' := 7) rfl rfl rfl ?_
      refine pm_R_icmp pm_M174 (t := 14) (pc' := 10) rfl rfl rfl (fun c_12 => ?_) (fun c_12 => by have z0 : ((-1) : Int32).toInt = -1 := (by decide); have z1 : ((0) : Int32).toInt = 0 := (by decide); have q0 := (Int32.le_iff_toInt_le.mp (Int32.not_lt.mp c_1)); have q1 := (Int32.le_iff_toInt_le.mp (Int32.not_lt.mp c_12)); exfalso; omega)
      refine pm_R_op pm_M174 (pc' := 15) (st' := [.int 0]) rfl rfl rfl ?_
      refine pm_R_ret pm_M174 (r := some (.int 0)) rfl rfl ?_
      show pm_R _ 177 13 [.ref 41, .int 0, .int x1] [.int 0] _ _
      refine pm_R_ret pm_M177 (r := some (.int 0)) rfl rfl ?_
      show pm_R _ 200 6 [.ref 41, .int x1, .int x2] [.int 0] _ _
      refine pm_R_br pm_M200 (pc' := 18) (st' := []) rfl rfl ?_
      refine pm_R_op pm_M200 (pc' := 19) (st' := [.int 0]) rfl rfl rfl ?_
      refine pm_R_ret pm_M200 (r := some (.int 0)) rfl rfl ?_
      show pm_R _ 251 11 [.ref 41, .int x1, .int x2, pm_no, pm_no, pm_no, pm_no, pm_no, pm_no] [.int 0] _ _
      refine pm_R_br pm_M251 (pc' := 14) (st' := []) rfl rfl ?_
      refine pm_R_op pm_M251 (pc' := 15) (st' := [.int (-1)]) rfl rfl rfl ?_
      refine pm_R_ret pm_M251 (r := some (.int (-1))) rfl rfl ?_
      show pm_R _ 0 1045 [.ref 0, .ref 16, .ref 41, .int 0] [.int (-1), .int (-1)] _ _
      refine pm_R_br pm_M0 (pc' := 2121) (st' := []) (pm_q0_12 (Nat.le_of_ble_eq_true rfl)) rfl ?_
      exact p1_tail (hh 0 (Nat.le_of_ble_eq_true rfl)) (Nat.le_of_ble_eq_true rfl) (Nat.le_of_ble_eq_true rfl) (Nat.le_of_ble_eq_true rfl)
set_option maxRecDepth 100000 in
set_option maxHeartbeats 40000000 in
theorem p1_c19 (xs : Nat → Int32) (f : Nat → pm_E) (hh : ∀ i, i < 72 → f i = pm_fF 7 xs i) (x0 x1 x2 x3 x4 x5 x6 : Int32) (hx0 : xs 0 = x0) (hx1 : xs 1 = x1) (hx2 : xs 2 = x2) (hx3 : xs 3 = x3) (hx4 : xs 4 = x4) (hx5 : xs 5 = x5) (hx6 : xs 6 = x6) : pm_R 100 0 1050 [.ref 0, .ref 16, .ref 41, .int 0] [] (72, 52657, f) p1_Q := by
  refine pm_R_lo pm_M0 (pc' := 1051) (pm_q0_12 (Nat.le_of_ble_eq_true rfl)) rfl rfl ?_
  refine pm_R_lo pm_M0 (pc' := 1052) (pm_q0_12 (Nat.le_of_ble_eq_true rfl)) rfl rfl ?_
  refine pm_R_lo pm_M0 (pc' := 1053) (pm_q0_12 (Nat.le_of_ble_eq_true rfl)) rfl rfl ?_
  refine pm_R_op pm_M0 (pc' := 1054) (st' := [.int 1, .int 0, .ref 0, .ref 16]) (pm_q0_12 (Nat.le_of_ble_eq_true rfl)) rfl rfl ?_
  refine pm_R_op pm_M0 (pc' := 1055) (st' := [.int 1, .ref 0, .ref 16]) (pm_q0_12 (Nat.le_of_ble_eq_true rfl)) rfl rfl ?_
  refine pm_R_iald pm_M0 (pc' := 1056) (v := x1) (pm_q0_12 (Nat.le_of_ble_eq_true rfl)) (hh 0 (Nat.le_of_ble_eq_true rfl)) (Nat.le_of_ble_eq_true rfl) rfl hx1 rfl ?_
  refine pm_R_lo pm_M0 (pc' := 1057) (pm_q0_12 (Nat.le_of_ble_eq_true rfl)) rfl rfl ?_
  refine pm_R_lo pm_M0 (pc' := 1058) (pm_q0_12 (Nat.le_of_ble_eq_true rfl)) rfl rfl ?_
  refine pm_R_op pm_M0 (pc' := 1059) (st' := [.int 2, .int 0, .ref 0, .int x1, .ref 16]) (pm_q0_12 (Nat.le_of_ble_eq_true rfl)) rfl rfl ?_
  refine pm_R_op pm_M0 (pc' := 1060) (st' := [.int 2, .ref 0, .int x1, .ref 16]) (pm_q0_12 (Nat.le_of_ble_eq_true rfl)) rfl rfl ?_
  refine pm_R_iald pm_M0 (pc' := 1061) (v := x2) (pm_q0_12 (Nat.le_of_ble_eq_true rfl)) (hh 0 (Nat.le_of_ble_eq_true rfl)) (Nat.le_of_ble_eq_true rfl) rfl hx2 rfl ?_
  refine pm_R_lo pm_M0 (pc' := 1062) (pm_q0_12 (Nat.le_of_ble_eq_true rfl)) rfl rfl ?_
  refine pm_R_lo pm_M0 (pc' := 1063) (pm_q0_12 (Nat.le_of_ble_eq_true rfl)) rfl rfl ?_
  refine pm_R_op pm_M0 (pc' := 1064) (st' := [.int 3, .int 0, .ref 0, .int x2, .int x1, .ref 16]) (pm_q0_12 (Nat.le_of_ble_eq_true rfl)) rfl rfl ?_
  refine pm_R_op pm_M0 (pc' := 1065) (st' := [.int 3, .ref 0, .int x2, .int x1, .ref 16]) (pm_q0_12 (Nat.le_of_ble_eq_true rfl)) rfl rfl ?_
  refine pm_R_iald pm_M0 (pc' := 1066) (v := x3) (pm_q0_12 (Nat.le_of_ble_eq_true rfl)) (hh 0 (Nat.le_of_ble_eq_true rfl)) (Nat.le_of_ble_eq_true rfl) rfl hx3 rfl ?_
  refine pm_R_cv pm_M0 (pc' := 1069) (a := 16) (ra := [.int x3, .int x2, .int x1]) (rest := []) (ls' := [.ref 16, .int x1, .int x2, .int x3, pm_no, pm_no]) (pm_q0_12 (Nat.le_of_ble_eq_true rfl)) rfl (Or.inl rfl) pm_M94 (hh 16 (Nat.le_of_ble_eq_true rfl)) rfl (Nat.le_of_ble_eq_true rfl) (Nat.le_of_ble_eq_true rfl) rfl rfl (Nat.le_of_ble_eq_true rfl) rfl rfl ?_
  refine pm_R_lo pm_M94 (pc' := 1) rfl rfl rfl ?_
  refine pm_R_lo pm_M94 (pc' := 2) rfl rfl rfl ?_
  refine pm_R_cv pm_M94 (pc' := 5) (a := 16) (ra := [.int x1]) (rest := []) (ls' := [.ref 16, .int x1]) rfl rfl (Or.inl rfl) pm_M62 (hh 16 (Nat.le_of_ble_eq_true rfl)) rfl (Nat.le_of_ble_eq_true rfl) (Nat.le_of_ble_eq_true rfl) rfl rfl (Nat.le_of_ble_eq_true rfl) rfl rfl ?_
  refine pm_R_lo pm_M62 (pc' := 1) rfl rfl rfl ?_
  refine pm_R_ifc pm_M62 (t := 17) (pc' := 4) rfl rfl rfl (fun c_1 => ?_) (fun c_1 => ?_)
  · refine pm_R_op pm_M62 (pc' := 18) (st' := [.null]) rfl rfl rfl ?_
    refine pm_R_br pm_M62 (pc' := 30) rfl rfl ?_
    refine pm_R_ret pm_M62 (r := some (.null)) rfl rfl ?_
    show pm_R _ 94 5 [.ref 16, .int x1, .int x2, .int x3, pm_no, pm_no] [.null] _ _
    refine pm_R_lo pm_M94 (pc' := 7) (ls' := [.ref 16, .int x1, .int x2, .int x3, .null, pm_no]) (st' := []) rfl rfl rfl ?_
    refine pm_R_lo pm_M94 (pc' := 8) rfl rfl rfl ?_
    refine pm_R_lo pm_M94 (pc' := 9) rfl rfl rfl ?_
    refine pm_R_cv pm_M94 (pc' := 12) (a := 16) (ra := [.int x2]) (rest := []) (ls' := [.ref 16, .int x2]) rfl rfl (Or.inl rfl) pm_M66 (hh 16 (Nat.le_of_ble_eq_true rfl)) rfl (Nat.le_of_ble_eq_true rfl) (Nat.le_of_ble_eq_true rfl) rfl rfl (Nat.le_of_ble_eq_true rfl) rfl rfl ?_
    refine pm_R_lo pm_M66 (pc' := 1) rfl rfl rfl ?_
    refine pm_R_ifc pm_M66 (t := 17) (pc' := 4) rfl rfl rfl (fun c_2 => ?_) (fun c_2 => ?_)
    · refine pm_R_op pm_M66 (pc' := 18) (st' := [.null]) rfl rfl rfl ?_
      refine pm_R_br pm_M66 (pc' := 30) rfl rfl ?_
      refine pm_R_ret pm_M66 (r := some (.null)) rfl rfl ?_
      show pm_R _ 94 12 [.ref 16, .int x1, .int x2, .int x3, .null, pm_no] [.null] _ _
      refine pm_R_lo pm_M94 (pc' := 14) (ls' := [.ref 16, .int x1, .int x2, .int x3, .null, .null]) (st' := []) rfl rfl rfl ?_
      refine pm_R_lo pm_M94 (pc' := 16) rfl rfl rfl ?_
      refine pm_R_br pm_M94 (pc' := 33) rfl rfl ?_
      refine pm_R_op pm_M94 (pc' := 34) (st' := [.int (-1)]) rfl rfl rfl ?_
      refine pm_R_ret pm_M94 (r := some (.int (-1))) rfl rfl ?_
      show pm_R _ 0 1069 [.ref 0, .ref 16, .ref 41, .int 0] [.int (-1)] _ _
      refine pm_R_lo pm_M0 (pc' := 1070) (pm_q0_12 (Nat.le_of_ble_eq_true rfl)) rfl rfl ?_
      refine pm_R_lo pm_M0 (pc' := 1071) (pm_q0_12 (Nat.le_of_ble_eq_true rfl)) rfl rfl ?_
      refine pm_R_lo pm_M0 (pc' := 1072) (pm_q0_12 (Nat.le_of_ble_eq_true rfl)) rfl rfl ?_
      refine pm_R_op pm_M0 (pc' := 1073) (st' := [.int 1, .int 0, .ref 0, .ref 41, .int (-1)]) (pm_q0_12 (Nat.le_of_ble_eq_true rfl)) rfl rfl ?_
      refine pm_R_op pm_M0 (pc' := 1074) (st' := [.int 1, .ref 0, .ref 41, .int (-1)]) (pm_q0_12 (Nat.le_of_ble_eq_true rfl)) rfl rfl ?_
      refine pm_R_iald pm_M0 (pc' := 1075) (v := x1) (pm_q0_12 (Nat.le_of_ble_eq_true rfl)) (hh 0 (Nat.le_of_ble_eq_true rfl)) (Nat.le_of_ble_eq_true rfl) rfl hx1 rfl ?_
      refine pm_R_lo pm_M0 (pc' := 1076) (pm_q0_12 (Nat.le_of_ble_eq_true rfl)) rfl rfl ?_
      refine pm_R_lo pm_M0 (pc' := 1077) (pm_q0_12 (Nat.le_of_ble_eq_true rfl)) rfl rfl ?_
      refine pm_R_op pm_M0 (pc' := 1078) (st' := [.int 2, .int 0, .ref 0, .int x1, .ref 41, .int (-1)]) (pm_q0_12 (Nat.le_of_ble_eq_true rfl)) rfl rfl ?_
      refine pm_R_op pm_M0 (pc' := 1079) (st' := [.int 2, .ref 0, .int x1, .ref 41, .int (-1)]) (pm_q0_12 (Nat.le_of_ble_eq_true rfl)) rfl rfl ?_
      refine pm_R_iald pm_M0 (pc' := 1080) (v := x2) (pm_q0_12 (Nat.le_of_ble_eq_true rfl)) (hh 0 (Nat.le_of_ble_eq_true rfl)) (Nat.le_of_ble_eq_true rfl) rfl hx2 rfl ?_
      refine pm_R_lo pm_M0 (pc' := 1081) (pm_q0_12 (Nat.le_of_ble_eq_true rfl)) rfl rfl ?_
      refine pm_R_lo pm_M0 (pc' := 1082) (pm_q0_12 (Nat.le_of_ble_eq_true rfl)) rfl rfl ?_
      refine pm_R_op pm_M0 (pc' := 1083) (st' := [.int 3, .int 0, .ref 0, .int x2, .int x1, .ref 41, .int (-1)]) (pm_q0_12 (Nat.le_of_ble_eq_true rfl)) rfl rfl ?_
      refine pm_R_op pm_M0 (pc' := 1084) (st' := [.int 3, .ref 0, .int x2, .int x1, .ref 41, .int (-1)]) (pm_q0_12 (Nat.le_of_ble_eq_true rfl)) rfl rfl ?_
      refine pm_R_iald pm_M0 (pc' := 1085) (v := x3) (pm_q0_12 (Nat.le_of_ble_eq_true rfl)) (hh 0 (Nat.le_of_ble_eq_true rfl)) (Nat.le_of_ble_eq_true rfl) rfl hx3 rfl ?_
      refine pm_R_cv pm_M0 (pc' := 1088) (a := 41) (ra := [.int x3, .int x2, .int x1]) (rest := [.int (-1)]) (ls' := [.ref 41, .int x1, .int x2, .int x3, pm_no, pm_no]) (pm_q0_12 (Nat.le_of_ble_eq_true rfl)) rfl (Or.inl rfl) pm_M252 (hh 41 (Nat.le_of_ble_eq_true rfl)) rfl (Nat.le_of_ble_eq_true rfl) (Nat.le_of_ble_eq_true rfl) rfl rfl (Nat.le_of_ble_eq_true rfl) rfl rfl ?_
      refine pm_R_lo pm_M252 (pc' := 1) rfl rfl rfl ?_
      refine pm_R_op pm_M252 (pc' := 2) (st' := [.int 0, .ref 41]) rfl rfl rfl ?_
      refine pm_R_put pm_M252 (pc' := 5) (fs' := [.int 0, .ref 42, .ref 43, .ref 44, .ref 45, .ref 46, .ref 47, .ref 48, .ref 49, .ref 50, .int 0, .int 0, .int 0, .int 0, .int 0, .long 0, .int 0, .int 0, .int 0, .ref 51, .ref 52, .int 0, .int 0, .int 0, .int 0, .ref 53, .int 0, .int 0, .ref 54, .ref 55, .ref 56, .int 0, .ref 57, .ref 58, .ref 59, .ref 60, .ref 61, .ref 62, .ref 63, .ref 64, .ref 65, .ref 66, .int 0, .int 0, .int 0, .ref 67, .ref 68, .int 0, .ref 69, .int 0, .int 0, .ref 70, .ref 71]) rfl rfl rfl (hh 41 (Nat.le_of_ble_eq_true rfl)) (Nat.le_of_ble_eq_true rfl) (Nat.le_of_ble_eq_true rfl) (Nat.le_of_ble_eq_true rfl) rfl (Or.inl rfl) rfl rfl ?_
      refine pm_R_lo pm_M252 (pc' := 6) rfl rfl rfl ?_
      refine pm_R_lo pm_M252 (pc' := 7) rfl rfl rfl ?_
      refine pm_R_lo pm_M252 (pc' := 8) rfl rfl rfl ?_
      refine pm_R_lo pm_M252 (pc' := 9) rfl rfl rfl ?_
      refine pm_R_cv pm_M252 (pc' := 12) (a := 41) (ra := [.int x3, .int x2, .int x1]) (rest := []) (ls' := [.ref 41, .int x1, .int x2, .int x3]) rfl rfl (Or.inl rfl) pm_M250 rfl rfl (Nat.le_of_ble_eq_true rfl) (Nat.le_of_ble_eq_true rfl) rfl rfl (Nat.le_of_ble_eq_true rfl) rfl rfl ?_
      refine pm_R_lo pm_M250 (pc' := 1) rfl rfl rfl ?_
      refine pm_R_lo pm_M250 (pc' := 2) rfl rfl rfl ?_
      refine pm_R_lo pm_M250 (pc' := 3) rfl rfl rfl ?_
      refine pm_R_cv pm_M250 (pc' := 6) (a := 41) (ra := [.int x2, .int x1]) (rest := []) (ls' := [.ref 41, .int x1, .int x2]) rfl rfl (Or.inl rfl) pm_M200 rfl rfl (Nat.le_of_ble_eq_true rfl) (Nat.le_of_ble_eq_true rfl) rfl rfl (Nat.le_of_ble_eq_true rfl) rfl rfl ?_
      refine pm_R_lo pm_M200 (pc' := 1) rfl rfl rfl ?_
      refine pm_R_op pm_M200 (pc' := 2) (st' := [.int 0, .ref 41]) rfl rfl rfl ?_
      refine pm_R_lo pm_M200 (pc' := 3) rfl rfl rfl ?_
      refine pm_R_cv pm_M200 (pc' := 6) (a := 41) (ra := [.int x1, .int 0]) (rest := []) (ls' := [.ref 41, .int 0, .int x1]) rfl rfl (Or.inl rfl) pm_M177 rfl rfl (Nat.le_of_ble_eq_true rfl) (Nat.le_of_ble_eq_true rfl) rfl rfl (Nat.le_of_ble_eq_true rfl) rfl rfl ?_
      refine pm_R_lo pm_M177 (pc' := 1) rfl rfl rfl ?_
      refine pm_R_op pm_M177 (pc' := 2) (st' := [.int 0, .int x1]) rfl rfl rfl ?_
      refine pm_R_lo pm_M177 (pc' := 3) rfl rfl rfl ?_
      refine pm_R_get pm_M177 (pc' := 6) (v := .ref 46) rfl rfl rfl (Nat.le_of_ble_eq_true rfl) (Nat.le_of_ble_eq_true rfl) rfl rfl ?_
      refine pm_R_lo pm_M177 (pc' := 7) rfl rfl rfl ?_
      refine pm_R_iald pm_M177 (pc' := 8) (v := 0) rfl (hh 46 (Nat.le_of_ble_eq_true rfl)) (Nat.le_of_ble_eq_true rfl) rfl rfl rfl ?_
      refine pm_R_op pm_M177 (pc' := 9) (st' := [.int 1, .int 0, .int 0, .int x1]) rfl rfl rfl ?_
      refine pm_R_op pm_M177 (pc' := 10) (st' := [.int (-1), .int 0, .int x1]) rfl rfl rfl ?_
      refine pm_R_cs pm_M177 (pc' := 13) (ra := [.int (-1), .int 0, .int x1]) (rest := []) (ls' := [.int x1, .int 0, .int (-1)]) rfl rfl (Or.inl rfl) pm_M174 rfl rfl (Nat.le_of_ble_eq_true rfl) rfl rfl ?_
      refine pm_R_lo pm_M174 (pc' := 1) rfl rfl rfl ?_
      refine pm_R_lo pm_M174 (pc' := 2) rfl rfl rfl ?_
      refine pm_R_icmp pm_M174 (t := 14) (pc' := 5) rfl rfl rfl (fun c_3 => ?_) (fun c_3 => by exact absurd c_1 c_3)
      refine pm_R_op pm_M174 (pc' := 15) (st' := [.int 0]) rfl rfl rfl ?_
      refine pm_R_ret pm_M174 (r := some (.int 0)) rfl rfl ?_
      show pm_R _ 177 13 [.ref 41, .int 0, .int x1] [.int 0] _ _
      refine pm_R_ret pm_M177 (r := some (.int 0)) rfl rfl ?_
      show pm_R _ 200 6 [.ref 41, .int x1, .int x2] [.int 0] _ _
      refine pm_R_br pm_M200 (pc' := 18) (st' := []) rfl rfl ?_
      refine pm_R_op pm_M200 (pc' := 19) (st' := [.int 0]) rfl rfl rfl ?_
      refine pm_R_ret pm_M200 (r := some (.int 0)) rfl rfl ?_
      show pm_R _ 250 6 [.ref 41, .int x1, .int x2, .int x3] [.int 0] _ _
      refine pm_R_br pm_M250 (pc' := 27) (st' := []) rfl rfl ?_
      refine pm_R_op pm_M250 (pc' := 28) (st' := [.int 0]) rfl rfl rfl ?_
      refine pm_R_ret pm_M250 (r := some (.int 0)) rfl rfl ?_
      show pm_R _ 252 12 [.ref 41, .int x1, .int x2, .int x3, pm_no, pm_no] [.int 0] _ _
      refine pm_R_br pm_M252 (pc' := 15) (st' := []) rfl rfl ?_
      refine pm_R_op pm_M252 (pc' := 16) (st' := [.int (-1)]) rfl rfl rfl ?_
      refine pm_R_ret pm_M252 (r := some (.int (-1))) rfl rfl ?_
      show pm_R _ 0 1088 [.ref 0, .ref 16, .ref 41, .int 0] [.int (-1), .int (-1)] _ _
      refine pm_R_br pm_M0 (pc' := 2121) (st' := []) (pm_q0_12 (Nat.le_of_ble_eq_true rfl)) rfl ?_
      exact p1_tail (hh 0 (Nat.le_of_ble_eq_true rfl)) (Nat.le_of_ble_eq_true rfl) (Nat.le_of_ble_eq_true rfl) (Nat.le_of_ble_eq_true rfl)
    · refine pm_R_lo pm_M66 (pc' := 5) rfl rfl rfl ?_
      refine pm_R_lo pm_M66 (pc' := 6) rfl rfl rfl ?_
      refine pm_R_get pm_M66 (pc' := 9) (v := .ref 17) rfl rfl (hh 16 (Nat.le_of_ble_eq_true rfl)) (Nat.le_of_ble_eq_true rfl) (Nat.le_of_ble_eq_true rfl) rfl rfl ?_
      refine pm_R_get pm_M66 (pc' := 12) (v := .ref 23) rfl rfl (hh 17 (Nat.le_of_ble_eq_true rfl)) (Nat.le_of_ble_eq_true rfl) (Nat.le_of_ble_eq_true rfl) rfl rfl ?_
      refine pm_R_op pm_M66 (pc' := 13) (st' := [.int 1, .ref 23, .int x2]) rfl rfl rfl ?_
      refine pm_R_iald pm_M66 (pc' := 14) (v := 0) rfl (hh 23 (Nat.le_of_ble_eq_true rfl)) (Nat.le_of_ble_eq_true rfl) rfl rfl rfl ?_
      refine pm_R_icmp pm_M66 (t := 21) (pc' := 17) rfl rfl rfl (fun c_4 => by exact absurd c_4 c_2) (fun c_4 => ?_)
      refine pm_R_op pm_M66 (pc' := 18) (st' := [.null]) rfl rfl rfl ?_
      refine pm_R_br pm_M66 (pc' := 30) rfl rfl ?_
      refine pm_R_ret pm_M66 (r := some (.null)) rfl rfl ?_
      show pm_R _ 94 12 [.ref 16, .int x1, .int x2, .int x3, .null, pm_no] [.null] _ _
      refine pm_R_lo pm_M94 (pc' := 14) (ls' := [.ref 16, .int x1, .int x2, .int x3, .null, .null]) (st' := []) rfl rfl rfl ?_
      refine pm_R_lo pm_M94 (pc' := 16) rfl rfl rfl ?_
      refine pm_R_br pm_M94 (pc' := 33) rfl rfl ?_
      refine pm_R_op pm_M94 (pc' := 34) (st' := [.int (-1)]) rfl rfl rfl ?_
      refine pm_R_ret pm_M94 (r := some (.int (-1))) rfl rfl ?_
      show pm_R _ 0 1069 [.ref 0, .ref 16, .ref 41, .int 0] [.int (-1)] _ _
      refine pm_R_lo pm_M0 (pc' := 1070) (pm_q0_12 (Nat.le_of_ble_eq_true rfl)) rfl rfl ?_
      refine pm_R_lo pm_M0 (pc' := 1071) (pm_q0_12 (Nat.le_of_ble_eq_true rfl)) rfl rfl ?_
      refine pm_R_lo pm_M0 (pc' := 1072) (pm_q0_12 (Nat.le_of_ble_eq_true rfl)) rfl rfl ?_
      refine pm_R_op pm_M0 (pc' := 1073) (st' := [.int 1, .int 0, .ref 0, .ref 41, .int (-1)]) (pm_q0_12 (Nat.le_of_ble_eq_true rfl)) rfl rfl ?_
      refine pm_R_op pm_M0 (pc' := 1074) (st' := [.int 1, .ref 0, .ref 41, .int (-1)]) (pm_q0_12 (Nat.le_of_ble_eq_true rfl)) rfl rfl ?_
      refine pm_R_iald pm_M0 (pc' := 1075) (v := x1) (pm_q0_12 (Nat.le_of_ble_eq_true rfl)) (hh 0 (Nat.le_of_ble_eq_true rfl)) (Nat.le_of_ble_eq_true rfl) rfl hx1 rfl ?_
      refine pm_R_lo pm_M0 (pc' := 1076) (pm_q0_12 (Nat.le_of_ble_eq_true rfl)) rfl rfl ?_
      refine pm_R_lo pm_M0 (pc' := 1077) (pm_q0_12 (Nat.le_of_ble_eq_true rfl)) rfl rfl ?_
      refine pm_R_op pm_M0 (pc' := 1078) (st' := [.int 2, .int 0, .ref 0, .int x1, .ref 41, .int (-1)]) (pm_q0_12 (Nat.le_of_ble_eq_true rfl)) rfl rfl ?_
      refine pm_R_op pm_M0 (pc' := 1079) (st' := [.int 2, .ref 0, .int x1, .ref 41, .int (-1)]) (pm_q0_12 (Nat.le_of_ble_eq_true rfl)) rfl rfl ?_
      refine pm_R_iald pm_M0 (pc' := 1080) (v := x2) (pm_q0_12 (Nat.le_of_ble_eq_true rfl)) (hh 0 (Nat.le_of_ble_eq_true rfl)) (Nat.le_of_ble_eq_true rfl) rfl hx2 rfl ?_
      refine pm_R_lo pm_M0 (pc' := 1081) (pm_q0_12 (Nat.le_of_ble_eq_true rfl)) rfl rfl ?_
      refine pm_R_lo pm_M0 (pc' := 1082) (pm_q0_12 (Nat.le_of_ble_eq_true rfl)) rfl rfl ?_
      refine pm_R_op pm_M0 (pc' := 1083) (st' := [.int 3, .int 0, .ref 0, .int x2, .int x1, .ref 41, .int (-1)]) (pm_q0_12 (Nat.le_of_ble_eq_true rfl)) rfl rfl ?_
      refine pm_R_op pm_M0 (pc' := 1084) (st' := [.int 3, .ref 0, .int x2, .int x1, .ref 41, .int (-1)]) (pm_q0_12 (Nat.le_of_ble_eq_true rfl)) rfl rfl ?_
      refine pm_R_iald pm_M0 (pc' := 1085) (v := x3) (pm_q0_12 (Nat.le_of_ble_eq_true rfl)) (hh 0 (Nat.le_of_ble_eq_true rfl)) (Nat.le_of_ble_eq_true rfl) rfl hx3 rfl ?_
      refine pm_R_cv pm_M0 (pc' := 1088) (a := 41) (ra := [.int x3, .int x2, .int x1]) (rest := [.int (-1)]) (ls' := [.ref 41, .int x1, .int x2, .int x3, pm_no, pm_no]) (pm_q0_12 (Nat.le_of_ble_eq_true rfl)) rfl (Or.inl rfl) pm_M252 (hh 41 (Nat.le_of_ble_eq_true rfl)) rfl (Nat.le_of_ble_eq_true rfl) (Nat.le_of_ble_eq_true rfl) rfl rfl (Nat.le_of_ble_eq_true rfl) rfl rfl ?_
      refine pm_R_lo pm_M252 (pc' := 1) rfl rfl rfl ?_
      refine pm_R_op pm_M252 (pc' := 2) (st' := [.int 0, .ref 41]) rfl rfl rfl ?_
      refine pm_R_put pm_M252 (pc' := 5) (fs' := [.int 0, .ref 42, .ref 43, .ref 44, .ref 45, .ref 46, .ref 47, .ref 48, .ref 49, .ref 50, .int 0, .int 0, .int 0, .int 0, .int 0, .long 0, .int 0, .int 0, .int 0, .ref 51, .ref 52, .int 0, .int 0, .int 0, .int 0, .ref 53, .int 0, .int 0, .ref 54, .ref 55, .ref 56, .int 0, .ref 57, .ref 58, .ref 59, .ref 60, .ref 61, .ref 62, .ref 63, .ref 64, .ref 65, .ref 66, .int 0, .int 0, .int 0, .ref 67, .ref 68, .int 0, .ref 69, .int 0, .int 0, .ref 70, .ref 71]) rfl rfl rfl (hh 41 (Nat.le_of_ble_eq_true rfl)) (Nat.le_of_ble_eq_true rfl) (Nat.le_of_ble_eq_true rfl) (Nat.le_of_ble_eq_true rfl) rfl (Or.inl rfl) rfl rfl ?_
      refine pm_R_lo pm_M252 (pc' := 6) rfl rfl rfl ?_
      refine pm_R_lo pm_M252 (pc' := 7) rfl rfl rfl ?_
      refine pm_R_lo pm_M252 (pc' := 8) rfl rfl rfl ?_
      refine pm_R_lo pm_M252 (pc' := 9) rfl rfl rfl ?_
      refine pm_R_cv pm_M252 (pc' := 12) (a := 41) (ra := [.int x3, .int x2, .int x1]) (rest := []) (ls' := [.ref 41, .int x1, .int x2, .int x3]) rfl rfl (Or.inl rfl) pm_M250 rfl rfl (Nat.le_of_ble_eq_true rfl) (Nat.le_of_ble_eq_true rfl) rfl rfl (Nat.le_of_ble_eq_true rfl) rfl rfl ?_
      refine pm_R_lo pm_M250 (pc' := 1) rfl rfl rfl ?_
      refine pm_R_lo pm_M250 (pc' := 2) rfl rfl rfl ?_
      refine pm_R_lo pm_M250 (pc' := 3) rfl rfl rfl ?_
      refine pm_R_cv pm_M250 (pc' := 6) (a := 41) (ra := [.int x2, .int x1]) (rest := []) (ls' := [.ref 41, .int x1, .int x2]) rfl rfl (Or.inl rfl) pm_M200 rfl rfl (Nat.le_of_ble_eq_true rfl) (Nat.le_of_ble_eq_true rfl) rfl rfl (Nat.le_of_ble_eq_true rfl) rfl rfl ?_
      refine pm_R_lo pm_M200 (pc' := 1) rfl rfl rfl ?_
      refine pm_R_op pm_M200 (pc' := 2) (st' := [.int 0, .ref 41]) rfl rfl rfl ?_
      refine pm_R_lo pm_M200 (pc' := 3) rfl rfl rfl ?_
      refine pm_R_cv pm_M200 (pc' := 6) (a := 41) (ra := [.int x1, .int 0]) (rest := []) (ls' := [.ref 41, .int 0, .int x1]) rfl rfl (Or.inl rfl) pm_M177 rfl rfl (Nat.le_of_ble_eq_true rfl) (Nat.le_of_ble_eq_true rfl) rfl rfl (Nat.le_of_ble_eq_true rfl) rfl rfl ?_
      refine pm_R_lo pm_M177 (pc' := 1) rfl rfl rfl ?_
      refine pm_R_op pm_M177 (pc' := 2) (st' := [.int 0, .int x1]) rfl rfl rfl ?_
      refine pm_R_lo pm_M177 (pc' := 3) rfl rfl rfl ?_
      refine pm_R_get pm_M177 (pc' := 6) (v := .ref 46) rfl rfl rfl (Nat.le_of_ble_eq_true rfl) (Nat.le_of_ble_eq_true rfl) rfl rfl ?_
      refine pm_R_lo pm_M177 (pc' := 7) rfl rfl rfl ?_
      refine pm_R_iald pm_M177 (pc' := 8) (v := 0) rfl (hh 46 (Nat.le_of_ble_eq_true rfl)) (Nat.le_of_ble_eq_true rfl) rfl rfl rfl ?_
      refine pm_R_op pm_M177 (pc' := 9) (st' := [.int 1, .int 0, .int 0, .int x1]) rfl rfl rfl ?_
      refine pm_R_op pm_M177 (pc' := 10) (st' := [.int (-1), .int 0, .int x1]) rfl rfl rfl ?_
      refine pm_R_cs pm_M177 (pc' := 13) (ra := [.int (-1), .int 0, .int x1]) (rest := []) (ls' := [.int x1, .int 0, .int (-1)]) rfl rfl (Or.inl rfl) pm_M174 rfl rfl (Nat.le_of_ble_eq_true rfl) rfl rfl ?_
      refine pm_R_lo pm_M174 (pc' := 1) rfl rfl rfl ?_
      refine pm_R_lo pm_M174 (pc' := 2) rfl rfl rfl ?_
      refine pm_R_icmp pm_M174 (t := 14) (pc' := 5) rfl rfl rfl (fun c_5 => ?_) (fun c_5 => by exact absurd c_1 c_5)
      refine pm_R_op pm_M174 (pc' := 15) (st' := [.int 0]) rfl rfl rfl ?_
      refine pm_R_ret pm_M174 (r := some (.int 0)) rfl rfl ?_
      show pm_R _ 177 13 [.ref 41, .int 0, .int x1] [.int 0] _ _
      refine pm_R_ret pm_M177 (r := some (.int 0)) rfl rfl ?_
      show pm_R _ 200 6 [.ref 41, .int x1, .int x2] [.int 0] _ _
      refine pm_R_br pm_M200 (pc' := 18) (st' := []) rfl rfl ?_
      refine pm_R_op pm_M200 (pc' := 19) (st' := [.int 0]) rfl rfl rfl ?_
      refine pm_R_ret pm_M200 (r := some (.int 0)) rfl rfl ?_
      show pm_R _ 250 6 [.ref 41, .int x1, .int x2, .int x3] [.int 0] _ _
      refine pm_R_br pm_M250 (pc' := 27) (st' := []) rfl rfl ?_
      refine pm_R_op pm_M250 (pc' := 28) (st' := [.int 0]) rfl rfl rfl ?_
      refine pm_R_ret pm_M250 (r := some (.int 0)) rfl rfl ?_
      show pm_R _ 252 12 [.ref 41, .int x1, .int x2, .int x3, pm_no, pm_no] [.int 0] _ _
      refine pm_R_br pm_M252 (pc' := 15) (st' := []) rfl rfl ?_
      refine pm_R_op pm_M252 (pc' := 16) (st' := [.int (-1)]) rfl rfl rfl ?_
      refine pm_R_ret pm_M252 (r := some (.int (-1))) rfl rfl ?_
      show pm_R _ 0 1088 [.ref 0, .ref 16, .ref 41, .int 0] [.int (-1), .int (-1)] _ _
      refine pm_R_br pm_M0 (pc' := 2121) (st' := []) (pm_q0_12 (Nat.le_of_ble_eq_true rfl)) rfl ?_
      exact p1_tail (hh 0 (Nat.le_of_ble_eq_true rfl)) (Nat.le_of_ble_eq_true rfl) (Nat.le_of_ble_eq_true rfl) (Nat.le_of_ble_eq_true rfl)
  · refine pm_R_lo pm_M62 (pc' := 5) rfl rfl rfl ?_
    refine pm_R_lo pm_M62 (pc' := 6) rfl rfl rfl ?_
    refine pm_R_get pm_M62 (pc' := 9) (v := .ref 17) rfl rfl (hh 16 (Nat.le_of_ble_eq_true rfl)) (Nat.le_of_ble_eq_true rfl) (Nat.le_of_ble_eq_true rfl) rfl rfl ?_
    refine pm_R_get pm_M62 (pc' := 12) (v := .ref 23) rfl rfl (hh 17 (Nat.le_of_ble_eq_true rfl)) (Nat.le_of_ble_eq_true rfl) (Nat.le_of_ble_eq_true rfl) rfl rfl ?_
    refine pm_R_op pm_M62 (pc' := 13) (st' := [.int 0, .ref 23, .int x1]) rfl rfl rfl ?_
    refine pm_R_iald pm_M62 (pc' := 14) (v := 0) rfl (hh 23 (Nat.le_of_ble_eq_true rfl)) (Nat.le_of_ble_eq_true rfl) rfl rfl rfl ?_
    refine pm_R_icmp pm_M62 (t := 21) (pc' := 17) rfl rfl rfl (fun c_6 => by exact absurd c_6 c_1) (fun c_6 => ?_)
    refine pm_R_op pm_M62 (pc' := 18) (st' := [.null]) rfl rfl rfl ?_
    refine pm_R_br pm_M62 (pc' := 30) rfl rfl ?_
    refine pm_R_ret pm_M62 (r := some (.null)) rfl rfl ?_
    show pm_R _ 94 5 [.ref 16, .int x1, .int x2, .int x3, pm_no, pm_no] [.null] _ _
    refine pm_R_lo pm_M94 (pc' := 7) (ls' := [.ref 16, .int x1, .int x2, .int x3, .null, pm_no]) (st' := []) rfl rfl rfl ?_
    refine pm_R_lo pm_M94 (pc' := 8) rfl rfl rfl ?_
    refine pm_R_lo pm_M94 (pc' := 9) rfl rfl rfl ?_
    refine pm_R_cv pm_M94 (pc' := 12) (a := 16) (ra := [.int x2]) (rest := []) (ls' := [.ref 16, .int x2]) rfl rfl (Or.inl rfl) pm_M66 (hh 16 (Nat.le_of_ble_eq_true rfl)) rfl (Nat.le_of_ble_eq_true rfl) (Nat.le_of_ble_eq_true rfl) rfl rfl (Nat.le_of_ble_eq_true rfl) rfl rfl ?_
    refine pm_R_lo pm_M66 (pc' := 1) rfl rfl rfl ?_
    refine pm_R_ifc pm_M66 (t := 17) (pc' := 4) rfl rfl rfl (fun c_7 => ?_) (fun c_7 => ?_)
    · refine pm_R_op pm_M66 (pc' := 18) (st' := [.null]) rfl rfl rfl ?_
      refine pm_R_br pm_M66 (pc' := 30) rfl rfl ?_
      refine pm_R_ret pm_M66 (r := some (.null)) rfl rfl ?_
      show pm_R _ 94 12 [.ref 16, .int x1, .int x2, .int x3, .null, pm_no] [.null] _ _
      refine pm_R_lo pm_M94 (pc' := 14) (ls' := [.ref 16, .int x1, .int x2, .int x3, .null, .null]) (st' := []) rfl rfl rfl ?_
      refine pm_R_lo pm_M94 (pc' := 16) rfl rfl rfl ?_
      refine pm_R_br pm_M94 (pc' := 33) rfl rfl ?_
      refine pm_R_op pm_M94 (pc' := 34) (st' := [.int (-1)]) rfl rfl rfl ?_
      refine pm_R_ret pm_M94 (r := some (.int (-1))) rfl rfl ?_
      show pm_R _ 0 1069 [.ref 0, .ref 16, .ref 41, .int 0] [.int (-1)] _ _
      refine pm_R_lo pm_M0 (pc' := 1070) (pm_q0_12 (Nat.le_of_ble_eq_true rfl)) rfl rfl ?_
      refine pm_R_lo pm_M0 (pc' := 1071) (pm_q0_12 (Nat.le_of_ble_eq_true rfl)) rfl rfl ?_
      refine pm_R_lo pm_M0 (pc' := 1072) (pm_q0_12 (Nat.le_of_ble_eq_true rfl)) rfl rfl ?_
      refine pm_R_op pm_M0 (pc' := 1073) (st' := [.int 1, .int 0, .ref 0, .ref 41, .int (-1)]) (pm_q0_12 (Nat.le_of_ble_eq_true rfl)) rfl rfl ?_
      refine pm_R_op pm_M0 (pc' := 1074) (st' := [.int 1, .ref 0, .ref 41, .int (-1)]) (pm_q0_12 (Nat.le_of_ble_eq_true rfl)) rfl rfl ?_
      refine pm_R_iald pm_M0 (pc' := 1075) (v := x1) (pm_q0_12 (Nat.le_of_ble_eq_true rfl)) (hh 0 (Nat.le_of_ble_eq_true rfl)) (Nat.le_of_ble_eq_true rfl) rfl hx1 rfl ?_
      refine pm_R_lo pm_M0 (pc' := 1076) (pm_q0_12 (Nat.le_of_ble_eq_true rfl)) rfl rfl ?_
      refine pm_R_lo pm_M0 (pc' := 1077) (pm_q0_12 (Nat.le_of_ble_eq_true rfl)) rfl rfl ?_
      refine pm_R_op pm_M0 (pc' := 1078) (st' := [.int 2, .int 0, .ref 0, .int x1, .ref 41, .int (-1)]) (pm_q0_12 (Nat.le_of_ble_eq_true rfl)) rfl rfl ?_
      refine pm_R_op pm_M0 (pc' := 1079) (st' := [.int 2, .ref 0, .int x1, .ref 41, .int (-1)]) (pm_q0_12 (Nat.le_of_ble_eq_true rfl)) rfl rfl ?_
      refine pm_R_iald pm_M0 (pc' := 1080) (v := x2) (pm_q0_12 (Nat.le_of_ble_eq_true rfl)) (hh 0 (Nat.le_of_ble_eq_true rfl)) (Nat.le_of_ble_eq_true rfl) rfl hx2 rfl ?_
      refine pm_R_lo pm_M0 (pc' := 1081) (pm_q0_12 (Nat.le_of_ble_eq_true rfl)) rfl rfl ?_
      refine pm_R_lo pm_M0 (pc' := 1082) (pm_q0_12 (Nat.le_of_ble_eq_true rfl)) rfl rfl ?_
      refine pm_R_op pm_M0 (pc' := 1083) (st' := [.int 3, .int 0, .ref 0, .int x2, .int x1, .ref 41, .int (-1)]) (pm_q0_12 (Nat.le_of_ble_eq_true rfl)) rfl rfl ?_
      refine pm_R_op pm_M0 (pc' := 1084) (st' := [.int 3, .ref 0, .int x2, .int x1, .ref 41, .int (-1)]) (pm_q0_12 (Nat.le_of_ble_eq_true rfl)) rfl rfl ?_
      refine pm_R_iald pm_M0 (pc' := 1085) (v := x3) (pm_q0_12 (Nat.le_of_ble_eq_true rfl)) (hh 0 (Nat.le_of_ble_eq_true rfl)) (Nat.le_of_ble_eq_true rfl) rfl hx3 rfl ?_
      refine pm_R_cv pm_M0 (pc' := 1088) (a := 41) (ra := [.int x3, .int x2, .int x1]) (rest := [.int (-1)]) (ls' := [.ref 41, .int x1, .int x2, .int x3, pm_no, pm_no]) (pm_q0_12 (Nat.le_of_ble_eq_true rfl)) rfl (Or.inl rfl) pm_M252 (hh 41 (Nat.le_of_ble_eq_true rfl)) rfl (Nat.le_of_ble_eq_true rfl) (Nat.le_of_ble_eq_true rfl) rfl rfl (Nat.le_of_ble_eq_true rfl) rfl rfl ?_
      refine pm_R_lo pm_M252 (pc' := 1) rfl rfl rfl ?_
      refine pm_R_op pm_M252 (pc' := 2) (st' := [.int 0, .ref 41]) rfl rfl rfl ?_
      refine pm_R_put pm_M252 (pc' := 5) (fs' := [.int 0, .ref 42, .ref 43, .ref 44, .ref 45, .ref 46, .ref 47, .ref 48, .ref 49, .ref 50, .int 0, .int 0, .int 0, .int 0, .int 0, .long 0, .int 0, .int 0, .int 0, .ref 51, .ref 52, .int 0, .int 0, .int 0, .int 0, .ref 53, .int 0, .int 0, .ref 54, .ref 55, .ref 56, .int 0, .ref 57, .ref 58, .ref 59, .ref 60, .ref 61, .ref 62, .ref 63, .ref 64, .ref 65, .ref 66, .int 0, .int 0, .int 0, .ref 67, .ref 68, .int 0, .ref 69, .int 0, .int 0, .ref 70, .ref 71]) rfl rfl rfl (hh 41 (Nat.le_of_ble_eq_true rfl)) (Nat.le_of_ble_eq_true rfl) (Nat.le_of_ble_eq_true rfl) (Nat.le_of_ble_eq_true rfl) rfl (Or.inl rfl) rfl rfl ?_
      refine pm_R_lo pm_M252 (pc' := 6) rfl rfl rfl ?_
      refine pm_R_lo pm_M252 (pc' := 7) rfl rfl rfl ?_
      refine pm_R_lo pm_M252 (pc' := 8) rfl rfl rfl ?_
      refine pm_R_lo pm_M252 (pc' := 9) rfl rfl rfl ?_
      refine pm_R_cv pm_M252 (pc' := 12) (a := 41) (ra := [.int x3, .int x2, .int x1]) (rest := []) (ls' := [.ref 41, .int x1, .int x2, .int x3]) rfl rfl (Or.inl rfl) pm_M250 rfl rfl (Nat.le_of_ble_eq_true rfl) (Nat.le_of_ble_eq_true rfl) rfl rfl (Nat.le_of_ble_eq_true rfl) rfl rfl ?_
      refine pm_R_lo pm_M250 (pc' := 1) rfl rfl rfl ?_
      refine pm_R_lo pm_M250 (pc' := 2) rfl rfl rfl ?_
      refine pm_R_lo pm_M250 (pc' := 3) rfl rfl rfl ?_
      refine pm_R_cv pm_M250 (pc' := 6) (a := 41) (ra := [.int x2, .int x1]) (rest := []) (ls' := [.ref 41, .int x1, .int x2]) rfl rfl (Or.inl rfl) pm_M200 rfl rfl (Nat.le_of_ble_eq_true rfl) (Nat.le_of_ble_eq_true rfl) rfl rfl (Nat.le_of_ble_eq_true rfl) rfl rfl ?_
      refine pm_R_lo pm_M200 (pc' := 1) rfl rfl rfl ?_
      refine pm_R_op pm_M200 (pc' := 2) (st' := [.int 0, .ref 41]) rfl rfl rfl ?_
      refine pm_R_lo pm_M200 (pc' := 3) rfl rfl rfl ?_
      refine pm_R_cv pm_M200 (pc' := 6) (a := 41) (ra := [.int x1, .int 0]) (rest := []) (ls' := [.ref 41, .int 0, .int x1]) rfl rfl (Or.inl rfl) pm_M177 rfl rfl (Nat.le_of_ble_eq_true rfl) (Nat.le_of_ble_eq_true rfl) rfl rfl (Nat.le_of_ble_eq_true rfl) rfl rfl ?_
      refine pm_R_lo pm_M177 (pc' := 1) rfl rfl rfl ?_
      refine pm_R_op pm_M177 (pc' := 2) (st' := [.int 0, .int x1]) rfl rfl rfl ?_
      refine pm_R_lo pm_M177 (pc' := 3) rfl rfl rfl ?_
      refine pm_R_get pm_M177 (pc' := 6) (v := .ref 46) rfl rfl rfl (Nat.le_of_ble_eq_true rfl) (Nat.le_of_ble_eq_true rfl) rfl rfl ?_
      refine pm_R_lo pm_M177 (pc' := 7) rfl rfl rfl ?_
      refine pm_R_iald pm_M177 (pc' := 8) (v := 0) rfl (hh 46 (Nat.le_of_ble_eq_true rfl)) (Nat.le_of_ble_eq_true rfl) rfl rfl rfl ?_
      refine pm_R_op pm_M177 (pc' := 9) (st' := [.int 1, .int 0, .int 0, .int x1]) rfl rfl rfl ?_
      refine pm_R_op pm_M177 (pc' := 10) (st' := [.int (-1), .int 0, .int x1]) rfl rfl rfl ?_
      refine pm_R_cs pm_M177 (pc' := 13) (ra := [.int (-1), .int 0, .int x1]) (rest := []) (ls' := [.int x1, .int 0, .int (-1)]) rfl rfl (Or.inl rfl) pm_M174 rfl rfl (Nat.le_of_ble_eq_true rfl) rfl rfl ?_
      refine pm_R_lo pm_M174 (pc' := 1) rfl rfl rfl ?_
      refine pm_R_lo pm_M174 (pc' := 2) rfl rfl rfl ?_
      refine pm_R_icmp pm_M174 (t := 14) (pc' := 5) rfl rfl rfl (fun c_8 => by exact absurd c_8 c_1) (fun c_8 => ?_)
      refine pm_R_lo pm_M174 (pc' := 6) rfl rfl rfl ?_
      refine pm_R_lo pm_M174 (pc' := 7) rfl rfl rfl ?_
      refine pm_R_icmp pm_M174 (t := 14) (pc' := 10) rfl rfl rfl (fun c_9 => ?_) (fun c_9 => by have z0 : ((-1) : Int32).toInt = -1 := (by decide); have z1 : ((0) : Int32).toInt = 0 := (by decide); have q0 := (Int32.le_iff_toInt_le.mp (Int32.not_lt.mp c_1)); have q1 := (Int32.le_iff_toInt_le.mp (Int32.not_lt.mp c_9)); exfalso; omega)
      refine pm_R_op pm_M174 (pc' := 15) (st' := [.int 0]) rfl rfl rfl ?_
      refine pm_R_ret pm_M174 (r := some (.int 0)) rfl rfl ?_
      show pm_R _ 177 13 [.ref 41, .int 0, .int x1] [.int 0] _ _
      refine pm_R_ret pm_M177 (r := some (.int 0)) rfl rfl ?_
      show pm_R _ 200 6 [.ref 41, .int x1, .int x2] [.int 0] _ _
      refine pm_R_br pm_M200 (pc' := 18) (st' := []) rfl rfl ?_
      refine pm_R_op pm_M200 (pc' := 19) (st' := [.int 0]) rfl rfl rfl ?_
      refine pm_R_ret pm_M200 (r := some (.int 0)) rfl rfl ?_
      show pm_R _ 250 6 [.ref 41, .int x1, .int x2, .int x3] [.int 0] _ _
      refine pm_R_br pm_M250 (pc' := 27) (st' := []) rfl rfl ?_
      refine pm_R_op pm_M250 (pc' := 28) (st' := [.int 0]) rfl rfl rfl ?_
      refine pm_R_ret pm_M250 (r := some (.int 0)) rfl rfl ?_
      show pm_R _ 252 12 [.ref 41, .int x1, .int x2, .int x3, pm_no, pm_no] [.int 0] _ _
      refine pm_R_br pm_M252 (pc' := 15) (st' := []) rfl rfl ?_
      refine pm_R_op pm_M252 (pc' := 16) (st' := [.int (-1)]) rfl rfl rfl ?_
      refine pm_R_ret pm_M252 (r := some (.int (-1))) rfl rfl ?_
      show pm_R _ 0 1088 [.ref 0, .ref 16, .ref 41, .int 0] [.int (-1), .int (-1)] _ _
      refine pm_R_br pm_M0 (pc' := 2121) (st' := []) (pm_q0_12 (Nat.le_of_ble_eq_true rfl)) rfl ?_
      exact p1_tail (hh 0 (Nat.le_of_ble_eq_true rfl)) (Nat.le_of_ble_eq_true rfl) (Nat.le_of_ble_eq_true rfl) (Nat.le_of_ble_eq_true rfl)
    · refine pm_R_lo pm_M66 (pc' := 5) rfl rfl rfl ?_
      refine pm_R_lo pm_M66 (pc' := 6) rfl rfl rfl ?_
      refine pm_R_get pm_M66 (pc' := 9) (v := .ref 17) rfl rfl (hh 16 (Nat.le_of_ble_eq_true rfl)) (Nat.le_of_ble_eq_true rfl) (Nat.le_of_ble_eq_true rfl) rfl rfl ?_
      refine pm_R_get pm_M66 (pc' := 12) (v := .ref 23) rfl rfl (hh 17 (Nat.le_of_ble_eq_true rfl)) (Nat.le_of_ble_eq_true rfl) (Nat.le_of_ble_eq_true rfl) rfl rfl ?_
      refine pm_R_op pm_M66 (pc' := 13) (st' := [.int 1, .ref 23, .int x2]) rfl rfl rfl ?_
      refine pm_R_iald pm_M66 (pc' := 14) (v := 0) rfl (hh 23 (Nat.le_of_ble_eq_true rfl)) (Nat.le_of_ble_eq_true rfl) rfl rfl rfl ?_
      refine pm_R_icmp pm_M66 (t := 21) (pc' := 17) rfl rfl rfl (fun c_10 => by exact absurd c_10 c_7) (fun c_10 => ?_)
      refine pm_R_op pm_M66 (pc' := 18) (st' := [.null]) rfl rfl rfl ?_
      refine pm_R_br pm_M66 (pc' := 30) rfl rfl ?_
      refine pm_R_ret pm_M66 (r := some (.null)) rfl rfl ?_
      show pm_R _ 94 12 [.ref 16, .int x1, .int x2, .int x3, .null, pm_no] [.null] _ _
      refine pm_R_lo pm_M94 (pc' := 14) (ls' := [.ref 16, .int x1, .int x2, .int x3, .null, .null]) (st' := []) rfl rfl rfl ?_
      refine pm_R_lo pm_M94 (pc' := 16) rfl rfl rfl ?_
      refine pm_R_br pm_M94 (pc' := 33) rfl rfl ?_
      refine pm_R_op pm_M94 (pc' := 34) (st' := [.int (-1)]) rfl rfl rfl ?_
      refine pm_R_ret pm_M94 (r := some (.int (-1))) rfl rfl ?_
      show pm_R _ 0 1069 [.ref 0, .ref 16, .ref 41, .int 0] [.int (-1)] _ _
      refine pm_R_lo pm_M0 (pc' := 1070) (pm_q0_12 (Nat.le_of_ble_eq_true rfl)) rfl rfl ?_
      refine pm_R_lo pm_M0 (pc' := 1071) (pm_q0_12 (Nat.le_of_ble_eq_true rfl)) rfl rfl ?_
      refine pm_R_lo pm_M0 (pc' := 1072) (pm_q0_12 (Nat.le_of_ble_eq_true rfl)) rfl rfl ?_
      refine pm_R_op pm_M0 (pc' := 1073) (st' := [.int 1, .int 0, .ref 0, .ref 41, .int (-1)]) (pm_q0_12 (Nat.le_of_ble_eq_true rfl)) rfl rfl ?_
      refine pm_R_op pm_M0 (pc' := 1074) (st' := [.int 1, .ref 0, .ref 41, .int (-1)]) (pm_q0_12 (Nat.le_of_ble_eq_true rfl)) rfl rfl ?_
      refine pm_R_iald pm_M0 (pc' := 1075) (v := x1) (pm_q0_12 (Nat.le_of_ble_eq_true rfl)) (hh 0 (Nat.le_of_ble_eq_true rfl)) (Nat.le_of_ble_eq_true rfl) rfl hx1 rfl ?_
      refine pm_R_lo pm_M0 (pc' := 1076) (pm_q0_12 (Nat.le_of_ble_eq_true rfl)) rfl rfl ?_
      refine pm_R_lo pm_M0 (pc' := 1077) (pm_q0_12 (Nat.le_of_ble_eq_true rfl)) rfl rfl ?_
      refine pm_R_op pm_M0 (pc' := 1078) (st' := [.int 2, .int 0, .ref 0, .int x1, .ref 41, .int (-1)]) (pm_q0_12 (Nat.le_of_ble_eq_true rfl)) rfl rfl ?_
      refine pm_R_op pm_M0 (pc' := 1079) (st' := [.int 2, .ref 0, .int x1, .ref 41, .int (-1)]) (pm_q0_12 (Nat.le_of_ble_eq_true rfl)) rfl rfl ?_
      refine pm_R_iald pm_M0 (pc' := 1080) (v := x2) (pm_q0_12 (Nat.le_of_ble_eq_true rfl)) (hh 0 (Nat.le_of_ble_eq_true rfl)) (Nat.le_of_ble_eq_true rfl) rfl hx2 rfl ?_
      refine pm_R_lo pm_M0 (pc' := 1081) (pm_q0_12 (Nat.le_of_ble_eq_true rfl)) rfl rfl ?_
      refine pm_R_lo pm_M0 (pc' := 1082) (pm_q0_12 (Nat.le_of_ble_eq_true rfl)) rfl rfl ?_
      refine pm_R_op pm_M0 (pc' := 1083) (st' := [.int 3, .int 0, .ref 0, .int x2, .int x1, .ref 41, .int (-1)]) (pm_q0_12 (Nat.le_of_ble_eq_true rfl)) rfl rfl ?_
      refine pm_R_op pm_M0 (pc' := 1084) (st' := [.int 3, .ref 0, .int x2, .int x1, .ref 41, .int (-1)]) (pm_q0_12 (Nat.le_of_ble_eq_true rfl)) rfl rfl ?_
      refine pm_R_iald pm_M0 (pc' := 1085) (v := x3) (pm_q0_12 (Nat.le_of_ble_eq_true rfl)) (hh 0 (Nat.le_of_ble_eq_true rfl)) (Nat.le_of_ble_eq_true rfl) rfl hx3 rfl ?_
      refine pm_R_cv pm_M0 (pc' := 1088) (a := 41) (ra := [.int x3, .int x2, .int x1]) (rest := [.int (-1)]) (ls' := [.ref 41, .int x1, .int x2, .int x3, pm_no, pm_no]) (pm_q0_12 (Nat.le_of_ble_eq_true rfl)) rfl (Or.inl rfl) pm_M252 (hh 41 (Nat.le_of_ble_eq_true rfl)) rfl (Nat.le_of_ble_eq_true rfl) (Nat.le_of_ble_eq_true rfl) rfl rfl (Nat.le_of_ble_eq_true rfl) rfl rfl ?_
      refine pm_R_lo pm_M252 (pc' := 1) rfl rfl rfl ?_
      refine pm_R_op pm_M252 (pc' := 2) (st' := [.int 0, .ref 41]) rfl rfl rfl ?_
      refine pm_R_put pm_M252 (pc' := 5) (fs' := [.int 0, .ref 42, .ref 43, .ref 44, .ref 45, .ref 46, .ref 47, .ref 48, .ref 49, .ref 50, .int 0, .int 0, .int 0, .int 0, .int 0, .long 0, .int 0, .int 0, .int 0, .ref 51, .ref 52, .int 0, .int 0, .int 0, .int 0, .ref 53, .int 0, .int 0, .ref 54, .ref 55, .ref 56, .int 0, .ref 57, .ref 58, .ref 59, .ref 60, .ref 61, .ref 62, .ref 63, .ref 64, .ref 65, .ref 66, .int 0, .int 0, .int 0, .ref 67, .ref 68, .int 0, .ref 69, .int 0, .int 0, .ref 70, .ref 71]) rfl rfl rfl (hh 41 (Nat.le_of_ble_eq_true rfl)) (Nat.le_of_ble_eq_true rfl) (Nat.le_of_ble_eq_true rfl) (Nat.le_of_ble_eq_true rfl) rfl (Or.inl rfl) rfl rfl ?_
      refine pm_R_lo pm_M252 (pc' := 6) rfl rfl rfl ?_
      refine pm_R_lo pm_M252 (pc' := 7) rfl rfl rfl ?_
      refine pm_R_lo pm_M252 (pc' := 8) rfl rfl rfl ?_
      refine pm_R_lo pm_M252 (pc' := 9) rfl rfl rfl ?_
      refine pm_R_cv pm_M252 (pc' := 12) (a := 41) (ra := [.int x3, .int x2, .int x1]) (rest := []) (ls' := [.ref 41, .int x1, .int x2, .int x3]) rfl rfl (Or.inl rfl) pm_M250 rfl rfl (Nat.le_of_ble_eq_true rfl) (Nat.le_of_ble_eq_true rfl) rfl rfl (Nat.le_of_ble_eq_true rfl) rfl rfl ?_
      refine pm_R_lo pm_M250 (pc' := 1) rfl rfl rfl ?_
      refine pm_R_lo pm_M250 (pc' := 2) rfl rfl rfl ?_
      refine pm_R_lo pm_M250 (pc' := 3) rfl rfl rfl ?_
      refine pm_R_cv pm_M250 (pc' := 6) (a := 41) (ra := [.int x2, .int x1]) (rest := []) (ls' := [.ref 41, .int x1, .int x2]) rfl rfl (Or.inl rfl) pm_M200 rfl rfl (Nat.le_of_ble_eq_true rfl) (Nat.le_of_ble_eq_true rfl) rfl rfl (Nat.le_of_ble_eq_true rfl) rfl rfl ?_
      refine pm_R_lo pm_M200 (pc' := 1) rfl rfl rfl ?_
      refine pm_R_op pm_M200 (pc' := 2) (st' := [.int 0, .ref 41]) rfl rfl rfl ?_
      refine pm_R_lo pm_M200 (pc' := 3) rfl rfl rfl ?_
      refine pm_R_cv pm_M200 (pc' := 6) (a := 41) (ra := [.int x1, .int 0]) (rest := []) (ls' := [.ref 41, .int 0, .int x1]) rfl rfl (Or.inl rfl) pm_M177 rfl rfl (Nat.le_of_ble_eq_true rfl) (Nat.le_of_ble_eq_true rfl) rfl rfl (Nat.le_of_ble_eq_true rfl) rfl rfl ?_
      refine pm_R_lo pm_M177 (pc' := 1) rfl rfl rfl ?_
      refine pm_R_op pm_M177 (pc' := 2) (st' := [.int 0, .int x1]) rfl rfl rfl ?_
      refine pm_R_lo pm_M177 (pc' := 3) rfl rfl rfl ?_
      refine pm_R_get pm_M177 (pc' := 6) (v := .ref 46) rfl rfl rfl (Nat.le_of_ble_eq_true rfl) (Nat.le_of_ble_eq_true rfl) rfl rfl ?_
      refine pm_R_lo pm_M177 (pc' := 7) rfl rfl rfl ?_
      refine pm_R_iald pm_M177 (pc' := 8) (v := 0) rfl (hh 46 (Nat.le_of_ble_eq_true rfl)) (Nat.le_of_ble_eq_true rfl) rfl rfl rfl ?_
      refine pm_R_op pm_M177 (pc' := 9) (st' := [.int 1, .int 0, .int 0, .int x1]) rfl rfl rfl ?_
      refine pm_R_op pm_M177 (pc' := 10) (st' := [.int (-1), .int 0, .int x1]) rfl rfl rfl ?_
      refine pm_R_cs pm_M177 (pc' := 13) (ra := [.int (-1), .int 0, .int x1]) (rest := []) (ls' := [.int x1, .int 0, .int (-1)]) rfl rfl (Or.inl rfl) pm_M174 rfl rfl (Nat.le_of_ble_eq_true rfl) rfl rfl ?_
      refine pm_R_lo pm_M174 (pc' := 1) rfl rfl rfl ?_
      refine pm_R_lo pm_M174 (pc' := 2) rfl rfl rfl ?_
      refine pm_R_icmp pm_M174 (t := 14) (pc' := 5) rfl rfl rfl (fun c_11 => by exact absurd c_11 c_1) (fun c_11 => ?_)
      refine pm_R_lo pm_M174 (pc' := 6) rfl rfl rfl ?_
      refine pm_R_lo pm_M174 (pc' := 7) rfl rfl rfl ?_
      refine pm_R_icmp pm_M174 (t := 14) (pc' := 10) rfl rfl rfl (fun c_12 => ?_) (fun c_12 => by have z0 : ((-1) : Int32).toInt = -1 := (by decide); have z1 : ((0) : Int32).toInt = 0 := (by decide); have q0 := (Int32.le_iff_toInt_le.mp (Int32.not_lt.mp c_1)); have q1 := (Int32.le_iff_toInt_le.mp (Int32.not_lt.mp c_12)); exfalso; omega)
      refine pm_R_op pm_M174 (pc' := 15) (st' := [.int 0]) rfl rfl rfl ?_
      refine pm_R_ret pm_M174 (r := some (.int 0)) rfl rfl ?_
      show pm_R _ 177 13 [.ref 41, .int 0, .int x1] [.int 0] _ _
      refine pm_R_ret pm_M177 (r := some (.int 0)) rfl rfl ?_
      show pm_R _ 200 6 [.ref 41, .int x1, .int x2] [.int 0] _ _
      refine pm_R_br pm_M200 (pc' := 18) (st' := []) rfl rfl ?_
      refine pm_R_op pm_M200 (pc' := 19) (st' := [.int 0]) rfl rfl rfl ?_
      refine pm_R_ret pm_M200 (r := some (.int 0)) rfl rfl ?_
      show pm_R _ 250 6 [.ref 41, .int x1, .int x2, .int x3] [.int 0] _ _
      refine pm_R_br pm_M250 (pc' := 27) (st' := []) rfl rfl ?_
      refine pm_R_op pm_M250 (pc' := 28) (st' := [.int 0]) rfl rfl rfl ?_
      refine pm_R_ret pm_M250 (r := some (.int 0)) rfl rfl ?_
      show pm_R _ 252 12 [.ref 41, .int x1, .int x2, .int x3, pm_no, pm_no] [.int 0] _ _
      refine pm_R_br pm_M252 (pc' := 15) (st' := []) rfl rfl ?_
      refine pm_R_op pm_M252 (pc' := 16) (st' := [.int (-1)]) rfl rfl rfl ?_
      refine pm_R_ret pm_M252 (r := some (.int (-1))) rfl rfl ?_
      show pm_R _ 0 1088 [.ref 0, .ref 16, .ref 41, .int 0] [.int (-1), .int (-1)] _ _
      refine pm_R_br pm_M0 (pc' := 2121) (st' := []) (pm_q0_12 (Nat.le_of_ble_eq_true rfl)) rfl ?_
      exact p1_tail (hh 0 (Nat.le_of_ble_eq_true rfl)) (Nat.le_of_ble_eq_true rfl) (Nat.le_of_ble_eq_true rfl) (Nat.le_of_ble_eq_true rfl)
set_option maxRecDepth 100000 in
set_option maxHeartbeats 40000000 in
theorem p1_c20 (xs : Nat → Int32) (f : Nat → pm_E) (hh : ∀ i, i < 72 → f i = pm_fF 7 xs i) (x0 x1 x2 x3 x4 x5 x6 : Int32) (hx0 : xs 0 = x0) (hx1 : xs 1 = x1) (hx2 : xs 2 = x2) (hx3 : xs 3 = x3) (hx4 : xs 4 = x4) (hx5 : xs 5 = x5) (hx6 : xs 6 = x6) : pm_R 100 0 1093 [.ref 0, .ref 16, .ref 41, .int 0] [] (72, 52657, f) p1_Q := by
  refine pm_R_lo pm_M0 (pc' := 1094) (pm_q0_12 (Nat.le_of_ble_eq_true rfl)) rfl rfl ?_
  refine pm_R_lo pm_M0 (pc' := 1095) (pm_q0_12 (Nat.le_of_ble_eq_true rfl)) rfl rfl ?_
  refine pm_R_lo pm_M0 (pc' := 1096) (pm_q0_12 (Nat.le_of_ble_eq_true rfl)) rfl rfl ?_
  refine pm_R_op pm_M0 (pc' := 1097) (st' := [.int 1, .int 0, .ref 0, .ref 16]) (pm_q0_12 (Nat.le_of_ble_eq_true rfl)) rfl rfl ?_
  refine pm_R_op pm_M0 (pc' := 1098) (st' := [.int 1, .ref 0, .ref 16]) (pm_q0_12 (Nat.le_of_ble_eq_true rfl)) rfl rfl ?_
  refine pm_R_iald pm_M0 (pc' := 1099) (v := x1) (pm_q0_12 (Nat.le_of_ble_eq_true rfl)) (hh 0 (Nat.le_of_ble_eq_true rfl)) (Nat.le_of_ble_eq_true rfl) rfl hx1 rfl ?_
  refine pm_R_lo pm_M0 (pc' := 1100) (pm_q0_12 (Nat.le_of_ble_eq_true rfl)) rfl rfl ?_
  refine pm_R_lo pm_M0 (pc' := 1101) (pm_q0_12 (Nat.le_of_ble_eq_true rfl)) rfl rfl ?_
  refine pm_R_op pm_M0 (pc' := 1102) (st' := [.int 2, .int 0, .ref 0, .int x1, .ref 16]) (pm_q0_12 (Nat.le_of_ble_eq_true rfl)) rfl rfl ?_
  refine pm_R_op pm_M0 (pc' := 1103) (st' := [.int 2, .ref 0, .int x1, .ref 16]) (pm_q0_12 (Nat.le_of_ble_eq_true rfl)) rfl rfl ?_
  refine pm_R_iald pm_M0 (pc' := 1104) (v := x2) (pm_q0_12 (Nat.le_of_ble_eq_true rfl)) (hh 0 (Nat.le_of_ble_eq_true rfl)) (Nat.le_of_ble_eq_true rfl) rfl hx2 rfl ?_
  refine pm_R_cv pm_M0 (pc' := 1107) (a := 16) (ra := [.int x2, .int x1]) (rest := []) (ls' := [.ref 16, .int x1, .int x2, pm_no]) (pm_q0_13 (Nat.le_of_ble_eq_true rfl)) rfl (Or.inl rfl) pm_M138 (hh 16 (Nat.le_of_ble_eq_true rfl)) rfl (Nat.le_of_ble_eq_true rfl) (Nat.le_of_ble_eq_true rfl) rfl rfl (Nat.le_of_ble_eq_true rfl) rfl rfl ?_
  refine pm_R_lo pm_M138 (pc' := 1) rfl rfl rfl ?_
  refine pm_R_lo pm_M138 (pc' := 2) rfl rfl rfl ?_
  refine pm_R_cv pm_M138 (pc' := 5) (a := 16) (ra := [.int x1]) (rest := []) (ls' := [.ref 16, .int x1]) rfl rfl (Or.inl rfl) pm_M139 (hh 16 (Nat.le_of_ble_eq_true rfl)) rfl (Nat.le_of_ble_eq_true rfl) (Nat.le_of_ble_eq_true rfl) rfl rfl (Nat.le_of_ble_eq_true rfl) rfl rfl ?_
  refine pm_R_lo pm_M139 (pc' := 1) rfl rfl rfl ?_
  refine pm_R_ifc pm_M139 (t := 17) (pc' := 4) rfl rfl rfl (fun c_1 => ?_) (fun c_1 => ?_)
  · refine pm_R_op pm_M139 (pc' := 18) (st' := [.null]) rfl rfl rfl ?_
    refine pm_R_br pm_M139 (pc' := 30) rfl rfl ?_
    refine pm_R_ret pm_M139 (r := some (.null)) rfl rfl ?_
    show pm_R _ 138 5 [.ref 16, .int x1, .int x2, pm_no] [.null] _ _
    refine pm_R_lo pm_M138 (pc' := 6) (ls' := [.ref 16, .int x1, .int x2, .null]) (st' := []) rfl rfl rfl ?_
    refine pm_R_lo pm_M138 (pc' := 7) rfl rfl rfl ?_
    refine pm_R_br pm_M138 (pc' := 10) rfl rfl ?_
    refine pm_R_op pm_M138 (pc' := 11) (st' := [.int (-1)]) rfl rfl rfl ?_
    refine pm_R_ret pm_M138 (r := some (.int (-1))) rfl rfl ?_
    show pm_R _ 0 1107 [.ref 0, .ref 16, .ref 41, .int 0] [.int (-1)] _ _
    refine pm_R_lo pm_M0 (pc' := 1108) (pm_q0_13 (Nat.le_of_ble_eq_true rfl)) rfl rfl ?_
    refine pm_R_lo pm_M0 (pc' := 1109) (pm_q0_13 (Nat.le_of_ble_eq_true rfl)) rfl rfl ?_
    refine pm_R_lo pm_M0 (pc' := 1110) (pm_q0_13 (Nat.le_of_ble_eq_true rfl)) rfl rfl ?_
    refine pm_R_op pm_M0 (pc' := 1111) (st' := [.int 1, .int 0, .ref 0, .ref 41, .int (-1)]) (pm_q0_13 (Nat.le_of_ble_eq_true rfl)) rfl rfl ?_
    refine pm_R_op pm_M0 (pc' := 1112) (st' := [.int 1, .ref 0, .ref 41, .int (-1)]) (pm_q0_13 (Nat.le_of_ble_eq_true rfl)) rfl rfl ?_
    refine pm_R_iald pm_M0 (pc' := 1113) (v := x1) (pm_q0_13 (Nat.le_of_ble_eq_true rfl)) (hh 0 (Nat.le_of_ble_eq_true rfl)) (Nat.le_of_ble_eq_true rfl) rfl hx1 rfl ?_
    refine pm_R_lo pm_M0 (pc' := 1114) (pm_q0_13 (Nat.le_of_ble_eq_true rfl)) rfl rfl ?_
    refine pm_R_lo pm_M0 (pc' := 1115) (pm_q0_13 (Nat.le_of_ble_eq_true rfl)) rfl rfl ?_
    refine pm_R_op pm_M0 (pc' := 1116) (st' := [.int 2, .int 0, .ref 0, .int x1, .ref 41, .int (-1)]) (pm_q0_13 (Nat.le_of_ble_eq_true rfl)) rfl rfl ?_
    refine pm_R_op pm_M0 (pc' := 1117) (st' := [.int 2, .ref 0, .int x1, .ref 41, .int (-1)]) (pm_q0_13 (Nat.le_of_ble_eq_true rfl)) rfl rfl ?_
    refine pm_R_iald pm_M0 (pc' := 1118) (v := x2) (pm_q0_13 (Nat.le_of_ble_eq_true rfl)) (hh 0 (Nat.le_of_ble_eq_true rfl)) (Nat.le_of_ble_eq_true rfl) rfl hx2 rfl ?_
    refine pm_R_cv pm_M0 (pc' := 1121) (a := 41) (ra := [.int x2, .int x1]) (rest := [.int (-1)]) (ls' := [.ref 41, .int x1, .int x2, pm_no, pm_no, pm_no]) (pm_q0_13 (Nat.le_of_ble_eq_true rfl)) rfl (Or.inl rfl) pm_M253 (hh 41 (Nat.le_of_ble_eq_true rfl)) rfl (Nat.le_of_ble_eq_true rfl) (Nat.le_of_ble_eq_true rfl) rfl rfl (Nat.le_of_ble_eq_true rfl) rfl rfl ?_
    refine pm_R_lo pm_M253 (pc' := 1) rfl rfl rfl ?_
    refine pm_R_op pm_M253 (pc' := 2) (st' := [.int 0, .ref 41]) rfl rfl rfl ?_
    refine pm_R_put pm_M253 (pc' := 5) (fs' := [.int 0, .ref 42, .ref 43, .ref 44, .ref 45, .ref 46, .ref 47, .ref 48, .ref 49, .ref 50, .int 0, .int 0, .int 0, .int 0, .int 0, .long 0, .int 0, .int 0, .int 0, .ref 51, .ref 52, .int 0, .int 0, .int 0, .int 0, .ref 53, .int 0, .int 0, .ref 54, .ref 55, .ref 56, .int 0, .ref 57, .ref 58, .ref 59, .ref 60, .ref 61, .ref 62, .ref 63, .ref 64, .ref 65, .ref 66, .int 0, .int 0, .int 0, .ref 67, .ref 68, .int 0, .ref 69, .int 0, .int 0, .ref 70, .ref 71]) rfl rfl rfl (hh 41 (Nat.le_of_ble_eq_true rfl)) (Nat.le_of_ble_eq_true rfl) (Nat.le_of_ble_eq_true rfl) (Nat.le_of_ble_eq_true rfl) rfl (Or.inl rfl) rfl rfl ?_
    refine pm_R_lo pm_M253 (pc' := 6) rfl rfl rfl ?_
    refine pm_R_lo pm_M253 (pc' := 7) rfl rfl rfl ?_
    refine pm_R_cv pm_M253 (pc' := 10) (a := 41) (ra := [.int x1]) (rest := []) (ls' := [.ref 41, .int x1, pm_no, pm_no, pm_no, pm_no]) rfl rfl (Or.inl rfl) pm_M254 rfl rfl (Nat.le_of_ble_eq_true rfl) (Nat.le_of_ble_eq_true rfl) rfl rfl (Nat.le_of_ble_eq_true rfl) rfl rfl ?_
    refine pm_R_lo pm_M254 (pc' := 1) rfl rfl rfl ?_
    refine pm_R_op pm_M254 (pc' := 2) (st' := [.int 2, .ref 41]) rfl rfl rfl ?_
    refine pm_R_lo pm_M254 (pc' := 3) rfl rfl rfl ?_
    refine pm_R_cv pm_M254 (pc' := 6) (a := 41) (ra := [.int x1, .int 2]) (rest := []) (ls' := [.ref 41, .int 2, .int x1]) rfl rfl (Or.inl rfl) pm_M177 rfl rfl (Nat.le_of_ble_eq_true rfl) (Nat.le_of_ble_eq_true rfl) rfl rfl (Nat.le_of_ble_eq_true rfl) rfl rfl ?_
    refine pm_R_lo pm_M177 (pc' := 1) rfl rfl rfl ?_
    refine pm_R_op pm_M177 (pc' := 2) (st' := [.int 0, .int x1]) rfl rfl rfl ?_
    refine pm_R_lo pm_M177 (pc' := 3) rfl rfl rfl ?_
    refine pm_R_get pm_M177 (pc' := 6) (v := .ref 46) rfl rfl rfl (Nat.le_of_ble_eq_true rfl) (Nat.le_of_ble_eq_true rfl) rfl rfl ?_
    refine pm_R_lo pm_M177 (pc' := 7) rfl rfl rfl ?_
    refine pm_R_iald pm_M177 (pc' := 8) (v := 0) rfl (hh 46 (Nat.le_of_ble_eq_true rfl)) (Nat.le_of_ble_eq_true rfl) rfl rfl rfl ?_
    refine pm_R_op pm_M177 (pc' := 9) (st' := [.int 1, .int 0, .int 0, .int x1]) rfl rfl rfl ?_
    refine pm_R_op pm_M177 (pc' := 10) (st' := [.int (-1), .int 0, .int x1]) rfl rfl rfl ?_
    refine pm_R_cs pm_M177 (pc' := 13) (ra := [.int (-1), .int 0, .int x1]) (rest := []) (ls' := [.int x1, .int 0, .int (-1)]) rfl rfl (Or.inl rfl) pm_M174 rfl rfl (Nat.le_of_ble_eq_true rfl) rfl rfl ?_
    refine pm_R_lo pm_M174 (pc' := 1) rfl rfl rfl ?_
    refine pm_R_lo pm_M174 (pc' := 2) rfl rfl rfl ?_
    refine pm_R_icmp pm_M174 (t := 14) (pc' := 5) rfl rfl rfl (fun c_2 => ?_) (fun c_2 => by exact absurd c_1 c_2)
    refine pm_R_op pm_M174 (pc' := 15) (st' := [.int 0]) rfl rfl rfl ?_
    refine pm_R_ret pm_M174 (r := some (.int 0)) rfl rfl ?_
    show pm_R _ 177 13 [.ref 41, .int 2, .int x1] [.int 0] _ _
    refine pm_R_ret pm_M177 (r := some (.int 0)) rfl rfl ?_
    show pm_R _ 254 6 [.ref 41, .int x1, pm_no, pm_no, pm_no, pm_no] [.int 0] _ _
    refine pm_R_br pm_M254 (pc' := 9) (st' := []) rfl rfl ?_
    refine pm_R_op pm_M254 (pc' := 10) (st' := [.int 0]) rfl rfl rfl ?_
    refine pm_R_ret pm_M254 (r := some (.int 0)) rfl rfl ?_
    show pm_R _ 253 10 [.ref 41, .int x1, .int x2, pm_no, pm_no, pm_no] [.int 0] _ _
    refine pm_R_br pm_M253 (pc' := 22) (st' := []) rfl rfl ?_
    refine pm_R_op pm_M253 (pc' := 23) (st' := [.int (-1)]) rfl rfl rfl ?_
    refine pm_R_ret pm_M253 (r := some (.int (-1))) rfl rfl ?_
    show pm_R _ 0 1121 [.ref 0, .ref 16, .ref 41, .int 0] [.int (-1), .int (-1)] _ _
    refine pm_R_br pm_M0 (pc' := 2121) (st' := []) (pm_q0_13 (Nat.le_of_ble_eq_true rfl)) rfl ?_
    exact p1_tail (hh 0 (Nat.le_of_ble_eq_true rfl)) (Nat.le_of_ble_eq_true rfl) (Nat.le_of_ble_eq_true rfl) (Nat.le_of_ble_eq_true rfl)
  · refine pm_R_lo pm_M139 (pc' := 5) rfl rfl rfl ?_
    refine pm_R_lo pm_M139 (pc' := 6) rfl rfl rfl ?_
    refine pm_R_get pm_M139 (pc' := 9) (v := .ref 17) rfl rfl (hh 16 (Nat.le_of_ble_eq_true rfl)) (Nat.le_of_ble_eq_true rfl) (Nat.le_of_ble_eq_true rfl) rfl rfl ?_
    refine pm_R_get pm_M139 (pc' := 12) (v := .ref 23) rfl rfl (hh 17 (Nat.le_of_ble_eq_true rfl)) (Nat.le_of_ble_eq_true rfl) (Nat.le_of_ble_eq_true rfl) rfl rfl ?_
    refine pm_R_op pm_M139 (pc' := 13) (st' := [.int 2, .ref 23, .int x1]) rfl rfl rfl ?_
    refine pm_R_iald pm_M139 (pc' := 14) (v := 0) rfl (hh 23 (Nat.le_of_ble_eq_true rfl)) (Nat.le_of_ble_eq_true rfl) rfl rfl rfl ?_
    refine pm_R_icmp pm_M139 (t := 21) (pc' := 17) rfl rfl rfl (fun c_3 => by exact absurd c_3 c_1) (fun c_3 => ?_)
    refine pm_R_op pm_M139 (pc' := 18) (st' := [.null]) rfl rfl rfl ?_
    refine pm_R_br pm_M139 (pc' := 30) rfl rfl ?_
    refine pm_R_ret pm_M139 (r := some (.null)) rfl rfl ?_
    show pm_R _ 138 5 [.ref 16, .int x1, .int x2, pm_no] [.null] _ _
    refine pm_R_lo pm_M138 (pc' := 6) (ls' := [.ref 16, .int x1, .int x2, .null]) (st' := []) rfl rfl rfl ?_
    refine pm_R_lo pm_M138 (pc' := 7) rfl rfl rfl ?_
    refine pm_R_br pm_M138 (pc' := 10) rfl rfl ?_
    refine pm_R_op pm_M138 (pc' := 11) (st' := [.int (-1)]) rfl rfl rfl ?_
    refine pm_R_ret pm_M138 (r := some (.int (-1))) rfl rfl ?_
    show pm_R _ 0 1107 [.ref 0, .ref 16, .ref 41, .int 0] [.int (-1)] _ _
    refine pm_R_lo pm_M0 (pc' := 1108) (pm_q0_13 (Nat.le_of_ble_eq_true rfl)) rfl rfl ?_
    refine pm_R_lo pm_M0 (pc' := 1109) (pm_q0_13 (Nat.le_of_ble_eq_true rfl)) rfl rfl ?_
    refine pm_R_lo pm_M0 (pc' := 1110) (pm_q0_13 (Nat.le_of_ble_eq_true rfl)) rfl rfl ?_
    refine pm_R_op pm_M0 (pc' := 1111) (st' := [.int 1, .int 0, .ref 0, .ref 41, .int (-1)]) (pm_q0_13 (Nat.le_of_ble_eq_true rfl)) rfl rfl ?_
    refine pm_R_op pm_M0 (pc' := 1112) (st' := [.int 1, .ref 0, .ref 41, .int (-1)]) (pm_q0_13 (Nat.le_of_ble_eq_true rfl)) rfl rfl ?_
    refine pm_R_iald pm_M0 (pc' := 1113) (v := x1) (pm_q0_13 (Nat.le_of_ble_eq_true rfl)) (hh 0 (Nat.le_of_ble_eq_true rfl)) (Nat.le_of_ble_eq_true rfl) rfl hx1 rfl ?_
    refine pm_R_lo pm_M0 (pc' := 1114) (pm_q0_13 (Nat.le_of_ble_eq_true rfl)) rfl rfl ?_
    refine pm_R_lo pm_M0 (pc' := 1115) (pm_q0_13 (Nat.le_of_ble_eq_true rfl)) rfl rfl ?_
    refine pm_R_op pm_M0 (pc' := 1116) (st' := [.int 2, .int 0, .ref 0, .int x1, .ref 41, .int (-1)]) (pm_q0_13 (Nat.le_of_ble_eq_true rfl)) rfl rfl ?_
    refine pm_R_op pm_M0 (pc' := 1117) (st' := [.int 2, .ref 0, .int x1, .ref 41, .int (-1)]) (pm_q0_13 (Nat.le_of_ble_eq_true rfl)) rfl rfl ?_
    refine pm_R_iald pm_M0 (pc' := 1118) (v := x2) (pm_q0_13 (Nat.le_of_ble_eq_true rfl)) (hh 0 (Nat.le_of_ble_eq_true rfl)) (Nat.le_of_ble_eq_true rfl) rfl hx2 rfl ?_
    refine pm_R_cv pm_M0 (pc' := 1121) (a := 41) (ra := [.int x2, .int x1]) (rest := [.int (-1)]) (ls' := [.ref 41, .int x1, .int x2, pm_no, pm_no, pm_no]) (pm_q0_13 (Nat.le_of_ble_eq_true rfl)) rfl (Or.inl rfl) pm_M253 (hh 41 (Nat.le_of_ble_eq_true rfl)) rfl (Nat.le_of_ble_eq_true rfl) (Nat.le_of_ble_eq_true rfl) rfl rfl (Nat.le_of_ble_eq_true rfl) rfl rfl ?_
    refine pm_R_lo pm_M253 (pc' := 1) rfl rfl rfl ?_
    refine pm_R_op pm_M253 (pc' := 2) (st' := [.int 0, .ref 41]) rfl rfl rfl ?_
    refine pm_R_put pm_M253 (pc' := 5) (fs' := [.int 0, .ref 42, .ref 43, .ref 44, .ref 45, .ref 46, .ref 47, .ref 48, .ref 49, .ref 50, .int 0, .int 0, .int 0, .int 0, .int 0, .long 0, .int 0, .int 0, .int 0, .ref 51, .ref 52, .int 0, .int 0, .int 0, .int 0, .ref 53, .int 0, .int 0, .ref 54, .ref 55, .ref 56, .int 0, .ref 57, .ref 58, .ref 59, .ref 60, .ref 61, .ref 62, .ref 63, .ref 64, .ref 65, .ref 66, .int 0, .int 0, .int 0, .ref 67, .ref 68, .int 0, .ref 69, .int 0, .int 0, .ref 70, .ref 71]) rfl rfl rfl (hh 41 (Nat.le_of_ble_eq_true rfl)) (Nat.le_of_ble_eq_true rfl) (Nat.le_of_ble_eq_true rfl) (Nat.le_of_ble_eq_true rfl) rfl (Or.inl rfl) rfl rfl ?_
    refine pm_R_lo pm_M253 (pc' := 6) rfl rfl rfl ?_
    refine pm_R_lo pm_M253 (pc' := 7) rfl rfl rfl ?_
    refine pm_R_cv pm_M253 (pc' := 10) (a := 41) (ra := [.int x1]) (rest := []) (ls' := [.ref 41, .int x1, pm_no, pm_no, pm_no, pm_no]) rfl rfl (Or.inl rfl) pm_M254 rfl rfl (Nat.le_of_ble_eq_true rfl) (Nat.le_of_ble_eq_true rfl) rfl rfl (Nat.le_of_ble_eq_true rfl) rfl rfl ?_
    refine pm_R_lo pm_M254 (pc' := 1) rfl rfl rfl ?_
    refine pm_R_op pm_M254 (pc' := 2) (st' := [.int 2, .ref 41]) rfl rfl rfl ?_
    refine pm_R_lo pm_M254 (pc' := 3) rfl rfl rfl ?_
    refine pm_R_cv pm_M254 (pc' := 6) (a := 41) (ra := [.int x1, .int 2]) (rest := []) (ls' := [.ref 41, .int 2, .int x1]) rfl rfl (Or.inl rfl) pm_M177 rfl rfl (Nat.le_of_ble_eq_true rfl) (Nat.le_of_ble_eq_true rfl) rfl rfl (Nat.le_of_ble_eq_true rfl) rfl rfl ?_
    refine pm_R_lo pm_M177 (pc' := 1) rfl rfl rfl ?_
    refine pm_R_op pm_M177 (pc' := 2) (st' := [.int 0, .int x1]) rfl rfl rfl ?_
    refine pm_R_lo pm_M177 (pc' := 3) rfl rfl rfl ?_
    refine pm_R_get pm_M177 (pc' := 6) (v := .ref 46) rfl rfl rfl (Nat.le_of_ble_eq_true rfl) (Nat.le_of_ble_eq_true rfl) rfl rfl ?_
    refine pm_R_lo pm_M177 (pc' := 7) rfl rfl rfl ?_
    refine pm_R_iald pm_M177 (pc' := 8) (v := 0) rfl (hh 46 (Nat.le_of_ble_eq_true rfl)) (Nat.le_of_ble_eq_true rfl) rfl rfl rfl ?_
    refine pm_R_op pm_M177 (pc' := 9) (st' := [.int 1, .int 0, .int 0, .int x1]) rfl rfl rfl ?_
    refine pm_R_op pm_M177 (pc' := 10) (st' := [.int (-1), .int 0, .int x1]) rfl rfl rfl ?_
    refine pm_R_cs pm_M177 (pc' := 13) (ra := [.int (-1), .int 0, .int x1]) (rest := []) (ls' := [.int x1, .int 0, .int (-1)]) rfl rfl (Or.inl rfl) pm_M174 rfl rfl (Nat.le_of_ble_eq_true rfl) rfl rfl ?_
    refine pm_R_lo pm_M174 (pc' := 1) rfl rfl rfl ?_
    refine pm_R_lo pm_M174 (pc' := 2) rfl rfl rfl ?_
    refine pm_R_icmp pm_M174 (t := 14) (pc' := 5) rfl rfl rfl (fun c_4 => by exact absurd c_4 c_1) (fun c_4 => ?_)
    refine pm_R_lo pm_M174 (pc' := 6) rfl rfl rfl ?_
    refine pm_R_lo pm_M174 (pc' := 7) rfl rfl rfl ?_
    refine pm_R_icmp pm_M174 (t := 14) (pc' := 10) rfl rfl rfl (fun c_5 => ?_) (fun c_5 => by have z0 : ((-1) : Int32).toInt = -1 := (by decide); have z1 : ((0) : Int32).toInt = 0 := (by decide); have q0 := (Int32.le_iff_toInt_le.mp (Int32.not_lt.mp c_1)); have q1 := (Int32.le_iff_toInt_le.mp (Int32.not_lt.mp c_5)); exfalso; omega)
    refine pm_R_op pm_M174 (pc' := 15) (st' := [.int 0]) rfl rfl rfl ?_
    refine pm_R_ret pm_M174 (r := some (.int 0)) rfl rfl ?_
    show pm_R _ 177 13 [.ref 41, .int 2, .int x1] [.int 0] _ _
    refine pm_R_ret pm_M177 (r := some (.int 0)) rfl rfl ?_
    show pm_R _ 254 6 [.ref 41, .int x1, pm_no, pm_no, pm_no, pm_no] [.int 0] _ _
    refine pm_R_br pm_M254 (pc' := 9) (st' := []) rfl rfl ?_
    refine pm_R_op pm_M254 (pc' := 10) (st' := [.int 0]) rfl rfl rfl ?_
    refine pm_R_ret pm_M254 (r := some (.int 0)) rfl rfl ?_
    show pm_R _ 253 10 [.ref 41, .int x1, .int x2, pm_no, pm_no, pm_no] [.int 0] _ _
    refine pm_R_br pm_M253 (pc' := 22) (st' := []) rfl rfl ?_
    refine pm_R_op pm_M253 (pc' := 23) (st' := [.int (-1)]) rfl rfl rfl ?_
    refine pm_R_ret pm_M253 (r := some (.int (-1))) rfl rfl ?_
    show pm_R _ 0 1121 [.ref 0, .ref 16, .ref 41, .int 0] [.int (-1), .int (-1)] _ _
    refine pm_R_br pm_M0 (pc' := 2121) (st' := []) (pm_q0_13 (Nat.le_of_ble_eq_true rfl)) rfl ?_
    exact p1_tail (hh 0 (Nat.le_of_ble_eq_true rfl)) (Nat.le_of_ble_eq_true rfl) (Nat.le_of_ble_eq_true rfl) (Nat.le_of_ble_eq_true rfl)
set_option maxRecDepth 100000 in
set_option maxHeartbeats 40000000 in
theorem p1_c21 (xs : Nat → Int32) (f : Nat → pm_E) (hh : ∀ i, i < 72 → f i = pm_fF 7 xs i) (x0 x1 x2 x3 x4 x5 x6 : Int32) (hx0 : xs 0 = x0) (hx1 : xs 1 = x1) (hx2 : xs 2 = x2) (hx3 : xs 3 = x3) (hx4 : xs 4 = x4) (hx5 : xs 5 = x5) (hx6 : xs 6 = x6) : pm_R 100 0 1126 [.ref 0, .ref 16, .ref 41, .int 0] [] (72, 52657, f) p1_Q := by
  refine pm_R_lo pm_M0 (pc' := 1127) (pm_q0_13 (Nat.le_of_ble_eq_true rfl)) rfl rfl ?_
  refine pm_R_lo pm_M0 (pc' := 1128) (pm_q0_13 (Nat.le_of_ble_eq_true rfl)) rfl rfl ?_
  refine pm_R_lo pm_M0 (pc' := 1129) (pm_q0_13 (Nat.le_of_ble_eq_true rfl)) rfl rfl ?_
  refine pm_R_op pm_M0 (pc' := 1130) (st' := [.int 1, .int 0, .ref 0, .ref 16]) (pm_q0_13 (Nat.le_of_ble_eq_true rfl)) rfl rfl ?_
  refine pm_R_op pm_M0 (pc' := 1131) (st' := [.int 1, .ref 0, .ref 16]) (pm_q0_13 (Nat.le_of_ble_eq_true rfl)) rfl rfl ?_
  refine pm_R_iald pm_M0 (pc' := 1132) (v := x1) (pm_q0_13 (Nat.le_of_ble_eq_true rfl)) (hh 0 (Nat.le_of_ble_eq_true rfl)) (Nat.le_of_ble_eq_true rfl) rfl hx1 rfl ?_
  refine pm_R_lo pm_M0 (pc' := 1133) (pm_q0_13 (Nat.le_of_ble_eq_true rfl)) rfl rfl ?_
  refine pm_R_lo pm_M0 (pc' := 1134) (pm_q0_13 (Nat.le_of_ble_eq_true rfl)) rfl rfl ?_
  refine pm_R_op pm_M0 (pc' := 1135) (st' := [.int 2, .int 0, .ref 0, .int x1, .ref 16]) (pm_q0_13 (Nat.le_of_ble_eq_true rfl)) rfl rfl ?_
  refine pm_R_op pm_M0 (pc' := 1136) (st' := [.int 2, .ref 0, .int x1, .ref 16]) (pm_q0_13 (Nat.le_of_ble_eq_true rfl)) rfl rfl ?_
  refine pm_R_iald pm_M0 (pc' := 1137) (v := x2) (pm_q0_13 (Nat.le_of_ble_eq_true rfl)) (hh 0 (Nat.le_of_ble_eq_true rfl)) (Nat.le_of_ble_eq_true rfl) rfl hx2 rfl ?_
  refine pm_R_lo pm_M0 (pc' := 1138) (pm_q0_13 (Nat.le_of_ble_eq_true rfl)) rfl rfl ?_
  refine pm_R_lo pm_M0 (pc' := 1139) (pm_q0_13 (Nat.le_of_ble_eq_true rfl)) rfl rfl ?_
  refine pm_R_op pm_M0 (pc' := 1140) (st' := [.int 3, .int 0, .ref 0, .int x2, .int x1, .ref 16]) (pm_q0_13 (Nat.le_of_ble_eq_true rfl)) rfl rfl ?_
  refine pm_R_op pm_M0 (pc' := 1141) (st' := [.int 3, .ref 0, .int x2, .int x1, .ref 16]) (pm_q0_13 (Nat.le_of_ble_eq_true rfl)) rfl rfl ?_
  refine pm_R_iald pm_M0 (pc' := 1142) (v := x3) (pm_q0_13 (Nat.le_of_ble_eq_true rfl)) (hh 0 (Nat.le_of_ble_eq_true rfl)) (Nat.le_of_ble_eq_true rfl) rfl hx3 rfl ?_
  refine pm_R_cv pm_M0 (pc' := 1145) (a := 16) (ra := [.int x3, .int x2, .int x1]) (rest := []) (ls' := [.ref 16, .int x1, .int x2, .int x3, pm_no]) (pm_q0_13 (Nat.le_of_ble_eq_true rfl)) rfl (Or.inl rfl) pm_M141 (hh 16 (Nat.le_of_ble_eq_true rfl)) rfl (Nat.le_of_ble_eq_true rfl) (Nat.le_of_ble_eq_true rfl) rfl rfl (Nat.le_of_ble_eq_true rfl) rfl rfl ?_
  refine pm_R_lo pm_M141 (pc' := 1) rfl rfl rfl ?_
  refine pm_R_lo pm_M141 (pc' := 2) rfl rfl rfl ?_
  refine pm_R_cv pm_M141 (pc' := 5) (a := 16) (ra := [.int x1]) (rest := []) (ls' := [.ref 16, .int x1]) rfl rfl (Or.inl rfl) pm_M139 (hh 16 (Nat.le_of_ble_eq_true rfl)) rfl (Nat.le_of_ble_eq_true rfl) (Nat.le_of_ble_eq_true rfl) rfl rfl (Nat.le_of_ble_eq_true rfl) rfl rfl ?_
  refine pm_R_lo pm_M139 (pc' := 1) rfl rfl rfl ?_
  refine pm_R_ifc pm_M139 (t := 17) (pc' := 4) rfl rfl rfl (fun c_1 => ?_) (fun c_1 => ?_)
  · refine pm_R_op pm_M139 (pc' := 18) (st' := [.null]) rfl rfl rfl ?_
    refine pm_R_br pm_M139 (pc' := 30) rfl rfl ?_
    refine pm_R_ret pm_M139 (r := some (.null)) rfl rfl ?_
    show pm_R _ 141 5 [.ref 16, .int x1, .int x2, .int x3, pm_no] [.null] _ _
    refine pm_R_lo pm_M141 (pc' := 7) (ls' := [.ref 16, .int x1, .int x2, .int x3, .null]) (st' := []) rfl rfl rfl ?_
    refine pm_R_lo pm_M141 (pc' := 9) rfl rfl rfl ?_
    refine pm_R_br pm_M141 (pc' := 34) rfl rfl ?_
    refine pm_R_op pm_M141 (pc' := 36) (st' := [.int (-2)]) rfl rfl rfl ?_
    refine pm_R_ret pm_M141 (r := some (.int (-2))) rfl rfl ?_
    show pm_R _ 0 1145 [.ref 0, .ref 16, .ref 41, .int 0] [.int (-2)] _ _
    refine pm_R_lo pm_M0 (pc' := 1146) (pm_q0_13 (Nat.le_of_ble_eq_true rfl)) rfl rfl ?_
    refine pm_R_lo pm_M0 (pc' := 1147) (pm_q0_13 (Nat.le_of_ble_eq_true rfl)) rfl rfl ?_
    refine pm_R_lo pm_M0 (pc' := 1148) (pm_q0_13 (Nat.le_of_ble_eq_true rfl)) rfl rfl ?_
    refine pm_R_op pm_M0 (pc' := 1149) (st' := [.int 1, .int 0, .ref 0, .ref 41, .int (-2)]) (pm_q0_13 (Nat.le_of_ble_eq_true rfl)) rfl rfl ?_
    refine pm_R_op pm_M0 (pc' := 1150) (st' := [.int 1, .ref 0, .ref 41, .int (-2)]) (pm_q0_13 (Nat.le_of_ble_eq_true rfl)) rfl rfl ?_
    refine pm_R_iald pm_M0 (pc' := 1151) (v := x1) (pm_q0_13 (Nat.le_of_ble_eq_true rfl)) (hh 0 (Nat.le_of_ble_eq_true rfl)) (Nat.le_of_ble_eq_true rfl) rfl hx1 rfl ?_
    refine pm_R_lo pm_M0 (pc' := 1152) (pm_q0_13 (Nat.le_of_ble_eq_true rfl)) rfl rfl ?_
    refine pm_R_lo pm_M0 (pc' := 1153) (pm_q0_13 (Nat.le_of_ble_eq_true rfl)) rfl rfl ?_
    refine pm_R_op pm_M0 (pc' := 1154) (st' := [.int 2, .int 0, .ref 0, .int x1, .ref 41, .int (-2)]) (pm_q0_13 (Nat.le_of_ble_eq_true rfl)) rfl rfl ?_
    refine pm_R_op pm_M0 (pc' := 1155) (st' := [.int 2, .ref 0, .int x1, .ref 41, .int (-2)]) (pm_q0_13 (Nat.le_of_ble_eq_true rfl)) rfl rfl ?_
    refine pm_R_iald pm_M0 (pc' := 1156) (v := x2) (pm_q0_13 (Nat.le_of_ble_eq_true rfl)) (hh 0 (Nat.le_of_ble_eq_true rfl)) (Nat.le_of_ble_eq_true rfl) rfl hx2 rfl ?_
    refine pm_R_lo pm_M0 (pc' := 1157) (pm_q0_13 (Nat.le_of_ble_eq_true rfl)) rfl rfl ?_
    refine pm_R_lo pm_M0 (pc' := 1158) (pm_q0_13 (Nat.le_of_ble_eq_true rfl)) rfl rfl ?_
    refine pm_R_op pm_M0 (pc' := 1159) (st' := [.int 3, .int 0, .ref 0, .int x2, .int x1, .ref 41, .int (-2)]) (pm_q0_13 (Nat.le_of_ble_eq_true rfl)) rfl rfl ?_
    refine pm_R_op pm_M0 (pc' := 1160) (st' := [.int 3, .ref 0, .int x2, .int x1, .ref 41, .int (-2)]) (pm_q0_13 (Nat.le_of_ble_eq_true rfl)) rfl rfl ?_
    refine pm_R_iald pm_M0 (pc' := 1161) (v := x3) (pm_q0_13 (Nat.le_of_ble_eq_true rfl)) (hh 0 (Nat.le_of_ble_eq_true rfl)) (Nat.le_of_ble_eq_true rfl) rfl hx3 rfl ?_
    refine pm_R_cv pm_M0 (pc' := 1164) (a := 41) (ra := [.int x3, .int x2, .int x1]) (rest := [.int (-2)]) (ls' := [.ref 41, .int x1, .int x2, .int x3]) (pm_q0_13 (Nat.le_of_ble_eq_true rfl)) rfl (Or.inl rfl) pm_M257 (hh 41 (Nat.le_of_ble_eq_true rfl)) rfl (Nat.le_of_ble_eq_true rfl) (Nat.le_of_ble_eq_true rfl) rfl rfl (Nat.le_of_ble_eq_true rfl) rfl rfl ?_
    refine pm_R_lo pm_M257 (pc' := 1) rfl rfl rfl ?_
    refine pm_R_op pm_M257 (pc' := 2) (st' := [.int 0, .ref 41]) rfl rfl rfl ?_
    refine pm_R_put pm_M257 (pc' := 5) (fs' := [.int 0, .ref 42, .ref 43, .ref 44, .ref 45, .ref 46, .ref 47, .ref 48, .ref 49, .ref 50, .int 0, .int 0, .int 0, .int 0, .int 0, .long 0, .int 0, .int 0, .int 0, .ref 51, .ref 52, .int 0, .int 0, .int 0, .int 0, .ref 53, .int 0, .int 0, .ref 54, .ref 55, .ref 56, .int 0, .ref 57, .ref 58, .ref 59, .ref 60, .ref 61, .ref 62, .ref 63, .ref 64, .ref 65, .ref 66, .int 0, .int 0, .int 0, .ref 67, .ref 68, .int 0, .ref 69, .int 0, .int 0, .ref 70, .ref 71]) rfl rfl rfl (hh 41 (Nat.le_of_ble_eq_true rfl)) (Nat.le_of_ble_eq_true rfl) (Nat.le_of_ble_eq_true rfl) (Nat.le_of_ble_eq_true rfl) rfl (Or.inl rfl) rfl rfl ?_
    refine pm_R_lo pm_M257 (pc' := 6) rfl rfl rfl ?_
    refine pm_R_lo pm_M257 (pc' := 7) rfl rfl rfl ?_
    refine pm_R_cv pm_M257 (pc' := 10) (a := 41) (ra := [.int x1]) (rest := []) (ls' := [.ref 41, .int x1, pm_no, pm_no, pm_no, pm_no]) rfl rfl (Or.inl rfl) pm_M254 rfl rfl (Nat.le_of_ble_eq_true rfl) (Nat.le_of_ble_eq_true rfl) rfl rfl (Nat.le_of_ble_eq_true rfl) rfl rfl ?_
    refine pm_R_lo pm_M254 (pc' := 1) rfl rfl rfl ?_
    refine pm_R_op pm_M254 (pc' := 2) (st' := [.int 2, .ref 41]) rfl rfl rfl ?_
    refine pm_R_lo pm_M254 (pc' := 3) rfl rfl rfl ?_
    refine pm_R_cv pm_M254 (pc' := 6) (a := 41) (ra := [.int x1, .int 2]) (rest := []) (ls' := [.ref 41, .int 2, .int x1]) rfl rfl (Or.inl rfl) pm_M177 rfl rfl (Nat.le_of_ble_eq_true rfl) (Nat.le_of_ble_eq_true rfl) rfl rfl (Nat.le_of_ble_eq_true rfl) rfl rfl ?_
    refine pm_R_lo pm_M177 (pc' := 1) rfl rfl rfl ?_
    refine pm_R_op pm_M177 (pc' := 2) (st' := [.int 0, .int x1]) rfl rfl rfl ?_
    refine pm_R_lo pm_M177 (pc' := 3) rfl rfl rfl ?_
    refine pm_R_get pm_M177 (pc' := 6) (v := .ref 46) rfl rfl rfl (Nat.le_of_ble_eq_true rfl) (Nat.le_of_ble_eq_true rfl) rfl rfl ?_
    refine pm_R_lo pm_M177 (pc' := 7) rfl rfl rfl ?_
    refine pm_R_iald pm_M177 (pc' := 8) (v := 0) rfl (hh 46 (Nat.le_of_ble_eq_true rfl)) (Nat.le_of_ble_eq_true rfl) rfl rfl rfl ?_
    refine pm_R_op pm_M177 (pc' := 9) (st' := [.int 1, .int 0, .int 0, .int x1]) rfl rfl rfl ?_
    refine pm_R_op pm_M177 (pc' := 10) (st' := [.int (-1), .int 0, .int x1]) rfl rfl rfl ?_
    refine pm_R_cs pm_M177 (pc' := 13) (ra := [.int (-1), .int 0, .int x1]) (rest := []) (ls' := [.int x1, .int 0, .int (-1)]) rfl rfl (Or.inl rfl) pm_M174 rfl rfl (Nat.le_of_ble_eq_true rfl) rfl rfl ?_
    refine pm_R_lo pm_M174 (pc' := 1) rfl rfl rfl ?_
    refine pm_R_lo pm_M174 (pc' := 2) rfl rfl rfl ?_
    refine pm_R_icmp pm_M174 (t := 14) (pc' := 5) rfl rfl rfl (fun c_2 => ?_) (fun c_2 => by exact absurd c_1 c_2)
    refine pm_R_op pm_M174 (pc' := 15) (st' := [.int 0]) rfl rfl rfl ?_
    refine pm_R_ret pm_M174 (r := some (.int 0)) rfl rfl ?_
    show pm_R _ 177 13 [.ref 41, .int 2, .int x1] [.int 0] _ _
    refine pm_R_ret pm_M177 (r := some (.int 0)) rfl rfl ?_
    show pm_R _ 254 6 [.ref 41, .int x1, pm_no, pm_no, pm_no, pm_no] [.int 0] _ _
    refine pm_R_br pm_M254 (pc' := 9) (st' := []) rfl rfl ?_
    refine pm_R_op pm_M254 (pc' := 10) (st' := [.int 0]) rfl rfl rfl ?_
    refine pm_R_ret pm_M254 (r := some (.int 0)) rfl rfl ?_
    show pm_R _ 257 10 [.ref 41, .int x1, .int x2, .int x3] [.int 0] _ _
    refine pm_R_br pm_M257 (pc' := 36) (st' := []) rfl rfl ?_
    refine pm_R_op pm_M257 (pc' := 38) (st' := [.int (-2)]) rfl rfl rfl ?_
    refine pm_R_ret pm_M257 (r := some (.int (-2))) rfl rfl ?_
    show pm_R _ 0 1164 [.ref 0, .ref 16, .ref 41, .int 0] [.int (-2), .int (-2)] _ _
    refine pm_R_br pm_M0 (pc' := 2121) (st' := []) (pm_q0_13 (Nat.le_of_ble_eq_true rfl)) rfl ?_
    exact p1_tail (hh 0 (Nat.le_of_ble_eq_true rfl)) (Nat.le_of_ble_eq_true rfl) (Nat.le_of_ble_eq_true rfl) (Nat.le_of_ble_eq_true rfl)
  · refine pm_R_lo pm_M139 (pc' := 5) rfl rfl rfl ?_
    refine pm_R_lo pm_M139 (pc' := 6) rfl rfl rfl ?_
    refine pm_R_get pm_M139 (pc' := 9) (v := .ref 17) rfl rfl (hh 16 (Nat.le_of_ble_eq_true rfl)) (Nat.le_of_ble_eq_true rfl) (Nat.le_of_ble_eq_true rfl) rfl rfl ?_
    refine pm_R_get pm_M139 (pc' := 12) (v := .ref 23) rfl rfl (hh 17 (Nat.le_of_ble_eq_true rfl)) (Nat.le_of_ble_eq_true rfl) (Nat.le_of_ble_eq_true rfl) rfl rfl ?_
    refine pm_R_op pm_M139 (pc' := 13) (st' := [.int 2, .ref 23, .int x1]) rfl rfl rfl ?_
    refine pm_R_iald pm_M139 (pc' := 14) (v := 0) rfl (hh 23 (Nat.le_of_ble_eq_true rfl)) (Nat.le_of_ble_eq_true rfl) rfl rfl rfl ?_
    refine pm_R_icmp pm_M139 (t := 21) (pc' := 17) rfl rfl rfl (fun c_3 => by exact absurd c_3 c_1) (fun c_3 => ?_)
    refine pm_R_op pm_M139 (pc' := 18) (st' := [.null]) rfl rfl rfl ?_
    refine pm_R_br pm_M139 (pc' := 30) rfl rfl ?_
    refine pm_R_ret pm_M139 (r := some (.null)) rfl rfl ?_
    show pm_R _ 141 5 [.ref 16, .int x1, .int x2, .int x3, pm_no] [.null] _ _
    refine pm_R_lo pm_M141 (pc' := 7) (ls' := [.ref 16, .int x1, .int x2, .int x3, .null]) (st' := []) rfl rfl rfl ?_
    refine pm_R_lo pm_M141 (pc' := 9) rfl rfl rfl ?_
    refine pm_R_br pm_M141 (pc' := 34) rfl rfl ?_
    refine pm_R_op pm_M141 (pc' := 36) (st' := [.int (-2)]) rfl rfl rfl ?_
    refine pm_R_ret pm_M141 (r := some (.int (-2))) rfl rfl ?_
    show pm_R _ 0 1145 [.ref 0, .ref 16, .ref 41, .int 0] [.int (-2)] _ _
    refine pm_R_lo pm_M0 (pc' := 1146) (pm_q0_13 (Nat.le_of_ble_eq_true rfl)) rfl rfl ?_
    refine pm_R_lo pm_M0 (pc' := 1147) (pm_q0_13 (Nat.le_of_ble_eq_true rfl)) rfl rfl ?_
    refine pm_R_lo pm_M0 (pc' := 1148) (pm_q0_13 (Nat.le_of_ble_eq_true rfl)) rfl rfl ?_
    refine pm_R_op pm_M0 (pc' := 1149) (st' := [.int 1, .int 0, .ref 0, .ref 41, .int (-2)]) (pm_q0_13 (Nat.le_of_ble_eq_true rfl)) rfl rfl ?_
    refine pm_R_op pm_M0 (pc' := 1150) (st' := [.int 1, .ref 0, .ref 41, .int (-2)]) (pm_q0_13 (Nat.le_of_ble_eq_true rfl)) rfl rfl ?_
    refine pm_R_iald pm_M0 (pc' := 1151) (v := x1) (pm_q0_13 (Nat.le_of_ble_eq_true rfl)) (hh 0 (Nat.le_of_ble_eq_true rfl)) (Nat.le_of_ble_eq_true rfl) rfl hx1 rfl ?_
    refine pm_R_lo pm_M0 (pc' := 1152) (pm_q0_13 (Nat.le_of_ble_eq_true rfl)) rfl rfl ?_
    refine pm_R_lo pm_M0 (pc' := 1153) (pm_q0_13 (Nat.le_of_ble_eq_true rfl)) rfl rfl ?_
    refine pm_R_op pm_M0 (pc' := 1154) (st' := [.int 2, .int 0, .ref 0, .int x1, .ref 41, .int (-2)]) (pm_q0_13 (Nat.le_of_ble_eq_true rfl)) rfl rfl ?_
    refine pm_R_op pm_M0 (pc' := 1155) (st' := [.int 2, .ref 0, .int x1, .ref 41, .int (-2)]) (pm_q0_13 (Nat.le_of_ble_eq_true rfl)) rfl rfl ?_
    refine pm_R_iald pm_M0 (pc' := 1156) (v := x2) (pm_q0_13 (Nat.le_of_ble_eq_true rfl)) (hh 0 (Nat.le_of_ble_eq_true rfl)) (Nat.le_of_ble_eq_true rfl) rfl hx2 rfl ?_
    refine pm_R_lo pm_M0 (pc' := 1157) (pm_q0_13 (Nat.le_of_ble_eq_true rfl)) rfl rfl ?_
    refine pm_R_lo pm_M0 (pc' := 1158) (pm_q0_13 (Nat.le_of_ble_eq_true rfl)) rfl rfl ?_
    refine pm_R_op pm_M0 (pc' := 1159) (st' := [.int 3, .int 0, .ref 0, .int x2, .int x1, .ref 41, .int (-2)]) (pm_q0_13 (Nat.le_of_ble_eq_true rfl)) rfl rfl ?_
    refine pm_R_op pm_M0 (pc' := 1160) (st' := [.int 3, .ref 0, .int x2, .int x1, .ref 41, .int (-2)]) (pm_q0_13 (Nat.le_of_ble_eq_true rfl)) rfl rfl ?_
    refine pm_R_iald pm_M0 (pc' := 1161) (v := x3) (pm_q0_13 (Nat.le_of_ble_eq_true rfl)) (hh 0 (Nat.le_of_ble_eq_true rfl)) (Nat.le_of_ble_eq_true rfl) rfl hx3 rfl ?_
    refine pm_R_cv pm_M0 (pc' := 1164) (a := 41) (ra := [.int x3, .int x2, .int x1]) (rest := [.int (-2)]) (ls' := [.ref 41, .int x1, .int x2, .int x3]) (pm_q0_13 (Nat.le_of_ble_eq_true rfl)) rfl (Or.inl rfl) pm_M257 (hh 41 (Nat.le_of_ble_eq_true rfl)) rfl (Nat.le_of_ble_eq_true rfl) (Nat.le_of_ble_eq_true rfl) rfl rfl (Nat.le_of_ble_eq_true rfl) rfl rfl ?_
    refine pm_R_lo pm_M257 (pc' := 1) rfl rfl rfl ?_
    refine pm_R_op pm_M257 (pc' := 2) (st' := [.int 0, .ref 41]) rfl rfl rfl ?_
    refine pm_R_put pm_M257 (pc' := 5) (fs' := [.int 0, .ref 42, .ref 43, .ref 44, .ref 45, .ref 46, .ref 47, .ref 48, .ref 49, .ref 50, .int 0, .int 0, .int 0, .int 0, .int 0, .long 0, .int 0, .int 0, .int 0, .ref 51, .ref 52, .int 0, .int 0, .int 0, .int 0, .ref 53, .int 0, .int 0, .ref 54, .ref 55, .ref 56, .int 0, .ref 57, .ref 58, .ref 59, .ref 60, .ref 61, .ref 62, .ref 63, .ref 64, .ref 65, .ref 66, .int 0, .int 0, .int 0, .ref 67, .ref 68, .int 0, .ref 69, .int 0, .int 0, .ref 70, .ref 71]) rfl rfl rfl (hh 41 (Nat.le_of_ble_eq_true rfl)) (Nat.le_of_ble_eq_true rfl) (Nat.le_of_ble_eq_true rfl) (Nat.le_of_ble_eq_true rfl) rfl (Or.inl rfl) rfl rfl ?_
    refine pm_R_lo pm_M257 (pc' := 6) rfl rfl rfl ?_
    refine pm_R_lo pm_M257 (pc' := 7) rfl rfl rfl ?_
    refine pm_R_cv pm_M257 (pc' := 10) (a := 41) (ra := [.int x1]) (rest := []) (ls' := [.ref 41, .int x1, pm_no, pm_no, pm_no, pm_no]) rfl rfl (Or.inl rfl) pm_M254 rfl rfl (Nat.le_of_ble_eq_true rfl) (Nat.le_of_ble_eq_true rfl) rfl rfl (Nat.le_of_ble_eq_true rfl) rfl rfl ?_
    refine pm_R_lo pm_M254 (pc' := 1) rfl rfl rfl ?_
    refine pm_R_op pm_M254 (pc' := 2) (st' := [.int 2, .ref 41]) rfl rfl rfl ?_
    refine pm_R_lo pm_M254 (pc' := 3) rfl rfl rfl ?_
    refine pm_R_cv pm_M254 (pc' := 6) (a := 41) (ra := [.int x1, .int 2]) (rest := []) (ls' := [.ref 41, .int 2, .int x1]) rfl rfl (Or.inl rfl) pm_M177 rfl rfl (Nat.le_of_ble_eq_true rfl) (Nat.le_of_ble_eq_true rfl) rfl rfl (Nat.le_of_ble_eq_true rfl) rfl rfl ?_
    refine pm_R_lo pm_M177 (pc' := 1) rfl rfl rfl ?_
    refine pm_R_op pm_M177 (pc' := 2) (st' := [.int 0, .int x1]) rfl rfl rfl ?_
    refine pm_R_lo pm_M177 (pc' := 3) rfl rfl rfl ?_
    refine pm_R_get pm_M177 (pc' := 6) (v := .ref 46) rfl rfl rfl (Nat.le_of_ble_eq_true rfl) (Nat.le_of_ble_eq_true rfl) rfl rfl ?_
    refine pm_R_lo pm_M177 (pc' := 7) rfl rfl rfl ?_
    refine pm_R_iald pm_M177 (pc' := 8) (v := 0) rfl (hh 46 (Nat.le_of_ble_eq_true rfl)) (Nat.le_of_ble_eq_true rfl) rfl rfl rfl ?_
    refine pm_R_op pm_M177 (pc' := 9) (st' := [.int 1, .int 0, .int 0, .int x1]) rfl rfl rfl ?_
    refine pm_R_op pm_M177 (pc' := 10) (st' := [.int (-1), .int 0, .int x1]) rfl rfl rfl ?_
    refine pm_R_cs pm_M177 (pc' := 13) (ra := [.int (-1), .int 0, .int x1]) (rest := []) (ls' := [.int x1, .int 0, .int (-1)]) rfl rfl (Or.inl rfl) pm_M174 rfl rfl (Nat.le_of_ble_eq_true rfl) rfl rfl ?_
    refine pm_R_lo pm_M174 (pc' := 1) rfl rfl rfl ?_
    refine pm_R_lo pm_M174 (pc' := 2) rfl rfl rfl ?_
    refine pm_R_icmp pm_M174 (t := 14) (pc' := 5) rfl rfl rfl (fun c_4 => by exact absurd c_4 c_1) (fun c_4 => ?_)
    refine pm_R_lo pm_M174 (pc' := 6) rfl rfl rfl ?_
    refine pm_R_lo pm_M174 (pc' := 7) rfl rfl rfl ?_
    refine pm_R_icmp pm_M174 (t := 14) (pc' := 10) rfl rfl rfl (fun c_5 => ?_) (fun c_5 => by have z0 : ((-1) : Int32).toInt = -1 := (by decide); have z1 : ((0) : Int32).toInt = 0 := (by decide); have q0 := (Int32.le_iff_toInt_le.mp (Int32.not_lt.mp c_1)); have q1 := (Int32.le_iff_toInt_le.mp (Int32.not_lt.mp c_5)); exfalso; omega)
    refine pm_R_op pm_M174 (pc' := 15) (st' := [.int 0]) rfl rfl rfl ?_
    refine pm_R_ret pm_M174 (r := some (.int 0)) rfl rfl ?_
    show pm_R _ 177 13 [.ref 41, .int 2, .int x1] [.int 0] _ _
    refine pm_R_ret pm_M177 (r := some (.int 0)) rfl rfl ?_
    show pm_R _ 254 6 [.ref 41, .int x1, pm_no, pm_no, pm_no, pm_no] [.int 0] _ _
    refine pm_R_br pm_M254 (pc' := 9) (st' := []) rfl rfl ?_
    refine pm_R_op pm_M254 (pc' := 10) (st' := [.int 0]) rfl rfl rfl ?_
    refine pm_R_ret pm_M254 (r := some (.int 0)) rfl rfl ?_
    show pm_R _ 257 10 [.ref 41, .int x1, .int x2, .int x3] [.int 0] _ _
    refine pm_R_br pm_M257 (pc' := 36) (st' := []) rfl rfl ?_
    refine pm_R_op pm_M257 (pc' := 38) (st' := [.int (-2)]) rfl rfl rfl ?_
    refine pm_R_ret pm_M257 (r := some (.int (-2))) rfl rfl ?_
    show pm_R _ 0 1164 [.ref 0, .ref 16, .ref 41, .int 0] [.int (-2), .int (-2)] _ _
    refine pm_R_br pm_M0 (pc' := 2121) (st' := []) (pm_q0_13 (Nat.le_of_ble_eq_true rfl)) rfl ?_
    exact p1_tail (hh 0 (Nat.le_of_ble_eq_true rfl)) (Nat.le_of_ble_eq_true rfl) (Nat.le_of_ble_eq_true rfl) (Nat.le_of_ble_eq_true rfl)
