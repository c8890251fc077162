set_option maxRecDepth 100000 in
set_option maxHeartbeats 40000000 in
theorem p1_c1 (xs : Nat → Int32) (f : Nat → pm_E) (hh : ∀ i, i < 72 → f i = pm_fF 7 xs i) (x0 x1 x2 x3 x4 x5 x6 : Int32) (hx0 : xs 0 = x0) (hx1 : xs 1 = x1) (hx2 : xs 2 = x2) (hx3 : xs 3 = x3) (hx4 : xs 4 = x4) (hx5 : xs 5 = x5) (hx6 : xs 6 = x6) : pm_R 100 0 283 [.ref 0, .ref 16, .ref 41, .int 0] [] (72, 52657, f) p1_Q := by
  refine pm_R_lo pm_M0 (pc' := 284) (pm_q0_1 (Nat.le_of_ble_eq_true rfl)) rfl rfl ?_
  refine pm_R_lo pm_M0 (pc' := 285) (pm_q0_1 (Nat.le_of_ble_eq_true rfl)) rfl rfl ?_
  refine pm_R_lo pm_M0 (pc' := 286) (pm_q0_1 (Nat.le_of_ble_eq_true rfl)) rfl rfl ?_
  refine pm_R_op pm_M0 (pc' := 287) (st' := [.int 1, .int 0, .ref 0, .ref 16]) (pm_q0_1 (Nat.le_of_ble_eq_true rfl)) rfl rfl ?_
  refine pm_R_op pm_M0 (pc' := 288) (st' := [.int 1, .ref 0, .ref 16]) (pm_q0_1 (Nat.le_of_ble_eq_true rfl)) rfl rfl ?_
  refine pm_R_iald pm_M0 (pc' := 289) (v := x1) (pm_q0_1 (Nat.le_of_ble_eq_true rfl)) (hh 0 (Nat.le_of_ble_eq_true rfl)) (Nat.le_of_ble_eq_true rfl) rfl hx1 rfl ?_
  refine pm_R_cv pm_M0 (pc' := 292) (a := 16) (ra := [.int x1]) (rest := []) (ls' := [.ref 16, .int x1]) (pm_q0_1 (Nat.le_of_ble_eq_true rfl)) rfl (Or.inl rfl) pm_M9 (hh 16 (Nat.le_of_ble_eq_true rfl)) rfl (Nat.le_of_ble_eq_true rfl) (Nat.le_of_ble_eq_true rfl) rfl rfl (Nat.le_of_ble_eq_true rfl) rfl rfl ?_
  refine pm_R_lo pm_M9 (pc' := 1) rfl rfl rfl ?_
  refine pm_R_ifc pm_M9 (t := 15) (pc' := 4) rfl rfl rfl (fun c_1 => ?_) (fun c_1 => ?_)
  · refine pm_R_op pm_M9 (pc' := 16) (st' := [.int (-1)]) rfl rfl rfl ?_
    refine pm_R_ret pm_M9 (r := some (.int (-1))) rfl rfl ?_
    show pm_R _ 0 292 [.ref 0, .ref 16, .ref 41, .int 0] [.int (-1)] _ _
    refine pm_R_lo pm_M0 (pc' := 293) (pm_q0_1 (Nat.le_of_ble_eq_true rfl)) rfl rfl ?_
    refine pm_R_lo pm_M0 (pc' := 294) (pm_q0_1 (Nat.le_of_ble_eq_true rfl)) rfl rfl ?_
    refine pm_R_lo pm_M0 (pc' := 295) (pm_q0_1 (Nat.le_of_ble_eq_true rfl)) rfl rfl ?_
    refine pm_R_op pm_M0 (pc' := 296) (st' := [.int 1, .int 0, .ref 0, .ref 41, .int (-1)]) (pm_q0_1 (Nat.le_of_ble_eq_true rfl)) rfl rfl ?_
    refine pm_R_op pm_M0 (pc' := 297) (st' := [.int 1, .ref 0, .ref 41, .int (-1)]) (pm_q0_1 (Nat.le_of_ble_eq_true rfl)) rfl rfl ?_
    refine pm_R_iald pm_M0 (pc' := 298) (v := x1) (pm_q0_1 (Nat.le_of_ble_eq_true rfl)) (hh 0 (Nat.le_of_ble_eq_true rfl)) (Nat.le_of_ble_eq_true rfl) rfl hx1 rfl ?_
    refine pm_R_cv pm_M0 (pc' := 301) (a := 41) (ra := [.int x1]) (rest := [.int (-1)]) (ls' := [.ref 41, .int x1]) (pm_q0_1 (Nat.le_of_ble_eq_true rfl)) rfl (Or.inl rfl) pm_M173 (hh 41 (Nat.le_of_ble_eq_true rfl)) rfl (Nat.le_of_ble_eq_true rfl) (Nat.le_of_ble_eq_true rfl) rfl rfl (Nat.le_of_ble_eq_true rfl) rfl rfl ?_
    refine pm_R_lo pm_M173 (pc' := 1) rfl rfl rfl ?_
    refine pm_R_op pm_M173 (pc' := 2) (st' := [.int 0, .ref 41]) rfl rfl rfl ?_
    refine pm_R_put pm_M173 (pc' := 5) (fs' := [.int 0, .ref 42, .ref 43, .ref 44, .ref 45, .ref 46, .ref 47, .ref 48, .ref 49, .ref 50, .int 0, .int 0, .int 0, .int 0, .int 0, .long 0, .int 0, .int 0, .int 0, .ref 51, .ref 52, .int 0, .int 0, .int 0, .int 0, .ref 53, .int 0, .int 0, .ref 54, .ref 55, .ref 56, .int 0, .ref 57, .ref 58, .ref 59, .ref 60, .ref 61, .ref 62, .ref 63, .ref 64, .ref 65, .ref 66, .int 0, .int 0, .int 0, .ref 67, .ref 68, .int 0, .ref 69, .int 0, .int 0, .ref 70, .ref 71]) rfl rfl rfl (hh 41 (Nat.le_of_ble_eq_true rfl)) (Nat.le_of_ble_eq_true rfl) (Nat.le_of_ble_eq_true rfl) (Nat.le_of_ble_eq_true rfl) rfl (Or.inl rfl) rfl rfl ?_
    refine pm_R_lo pm_M173 (pc' := 6) rfl rfl rfl ?_
    refine pm_R_op pm_M173 (pc' := 7) (st' := [.int 0, .int x1]) rfl rfl rfl ?_
    refine pm_R_lo pm_M173 (pc' := 8) rfl rfl rfl ?_
    refine pm_R_get pm_M173 (pc' := 11) (v := .ref 43) rfl rfl rfl (Nat.le_of_ble_eq_true rfl) (Nat.le_of_ble_eq_true rfl) rfl rfl ?_
    refine pm_R_op pm_M173 (pc' := 12) (st' := [.int 0, .ref 43, .int 0, .int x1]) rfl rfl rfl ?_
    refine pm_R_iald pm_M173 (pc' := 13) (v := 0) rfl (hh 43 (Nat.le_of_ble_eq_true rfl)) (Nat.le_of_ble_eq_true rfl) rfl rfl rfl ?_
    refine pm_R_cs pm_M173 (pc' := 16) (ra := [.int 0, .int 0, .int x1]) (rest := []) (ls' := [.int x1, .int 0, .int 0]) rfl rfl (Or.inl rfl) pm_M174 rfl rfl (Nat.le_of_ble_eq_true rfl) rfl rfl ?_
    refine pm_R_lo pm_M174 (pc' := 1) rfl rfl rfl ?_
    refine pm_R_lo pm_M174 (pc' := 2) rfl rfl rfl ?_
    refine pm_R_icmp pm_M174 (t := 14) (pc' := 5) rfl rfl rfl (fun c_2 => ?_) (fun c_2 => by exact absurd c_1 c_2)
    refine pm_R_op pm_M174 (pc' := 15) (st' := [.int 0]) rfl rfl rfl ?_
    refine pm_R_ret pm_M174 (r := some (.int 0)) rfl rfl ?_
    show pm_R _ 173 16 [.ref 41, .int x1] [.int 0] _ _
    refine pm_R_br pm_M173 (pc' := 19) (st' := []) rfl rfl ?_
    refine pm_R_op pm_M173 (pc' := 20) (st' := [.int (-1)]) rfl rfl rfl ?_
    refine pm_R_ret pm_M173 (r := some (.int (-1))) rfl rfl ?_
    show pm_R _ 0 301 [.ref 0, .ref 16, .ref 41, .int 0] [.int (-1), .int (-1)] _ _
    refine pm_R_br pm_M0 (pc' := 2121) (st' := []) (pm_q0_1 (Nat.le_of_ble_eq_true rfl)) rfl ?_
    exact p1_tail (hh 0 (Nat.le_of_ble_eq_true rfl)) (Nat.le_of_ble_eq_true rfl) (Nat.le_of_ble_eq_true rfl) (Nat.le_of_ble_eq_true rfl)
  · refine pm_R_lo pm_M9 (pc' := 5) rfl rfl rfl ?_
    refine pm_R_lo pm_M9 (pc' := 6) rfl rfl rfl ?_
    refine pm_R_get pm_M9 (pc' := 9) (v := .ref 17) rfl rfl (hh 16 (Nat.le_of_ble_eq_true rfl)) (Nat.le_of_ble_eq_true rfl) (Nat.le_of_ble_eq_true rfl) rfl rfl ?_
    refine pm_R_get pm_M9 (pc' := 12) (v := .int 0) rfl rfl (hh 17 (Nat.le_of_ble_eq_true rfl)) (Nat.le_of_ble_eq_true rfl) (Nat.le_of_ble_eq_true rfl) rfl rfl ?_
    refine pm_R_icmp pm_M9 (t := 17) (pc' := 15) rfl rfl rfl (fun c_3 => ?_) (fun c_3 => ?_)
    · refine pm_R_lo pm_M9 (pc' := 18) rfl rfl rfl ?_
      refine pm_R_get pm_M9 (pc' := 21) (v := .ref 17) rfl rfl (hh 16 (Nat.le_of_ble_eq_true rfl)) (Nat.le_of_ble_eq_true rfl) (Nat.le_of_ble_eq_true rfl) rfl rfl ?_
      refine pm_R_lo pm_M9 (pc' := 22) rfl rfl rfl ?_
      refine pm_R_put pm_M9 (pc' := 25) (fs' := [.ref 18, .int x1, .int 0, .int (-1), .ref 19, .ref 20, .ref 21, .ref 22, .ref 23]) rfl rfl rfl (hh 17 (Nat.le_of_ble_eq_true rfl)) (Nat.le_of_ble_eq_true rfl) (Nat.le_of_ble_eq_true rfl) (Nat.le_of_ble_eq_true rfl) rfl (Or.inl rfl) rfl rfl ?_
      refine pm_R_lo pm_M9 (pc' := 26) rfl rfl rfl ?_
      refine pm_R_ret pm_M9 (r := some (.int x1)) rfl (pm_ret_i _) ?_
      show pm_R _ 0 292 [.ref 0, .ref 16, .ref 41, .int 0] [.int x1] _ _
      refine pm_R_lo pm_M0 (pc' := 293) (pm_q0_1 (Nat.le_of_ble_eq_true rfl)) rfl rfl ?_
      refine pm_R_lo pm_M0 (pc' := 294) (pm_q0_1 (Nat.le_of_ble_eq_true rfl)) rfl rfl ?_
      refine pm_R_lo pm_M0 (pc' := 295) (pm_q0_1 (Nat.le_of_ble_eq_true rfl)) rfl rfl ?_
      refine pm_R_op pm_M0 (pc' := 296) (st' := [.int 1, .int 0, .ref 0, .ref 41, .int x1]) (pm_q0_1 (Nat.le_of_ble_eq_true rfl)) rfl rfl ?_
      refine pm_R_op pm_M0 (pc' := 297) (st' := [.int 1, .ref 0, .ref 41, .int x1]) (pm_q0_1 (Nat.le_of_ble_eq_true rfl)) rfl rfl ?_
      refine pm_R_iald pm_M0 (pc' := 298) (v := x1) (pm_q0_1 (Nat.le_of_ble_eq_true rfl)) (hh 0 (Nat.le_of_ble_eq_true rfl)) (Nat.le_of_ble_eq_true rfl) rfl hx1 rfl ?_
      refine pm_R_cv pm_M0 (pc' := 301) (a := 41) (ra := [.int x1]) (rest := [.int x1]) (ls' := [.ref 41, .int x1]) (pm_q0_1 (Nat.le_of_ble_eq_true rfl)) rfl (Or.inl rfl) pm_M173 (hh 41 (Nat.le_of_ble_eq_true rfl)) rfl (Nat.le_of_ble_eq_true rfl) (Nat.le_of_ble_eq_true rfl) rfl rfl (Nat.le_of_ble_eq_true rfl) rfl rfl ?_
      refine pm_R_lo pm_M173 (pc' := 1) rfl rfl rfl ?_
      refine pm_R_op pm_M173 (pc' := 2) (st' := [.int 0, .ref 41]) rfl rfl rfl ?_
      refine pm_R_put pm_M173 (pc' := 5) (fs' := [.int 0, .ref 42, .ref 43, .ref 44, .ref 45, .ref 46, .ref 47, .ref 48, .ref 49, .ref 50, .int 0, .int 0, .int 0, .int 0, .int 0, .long 0, .int 0, .int 0, .int 0, .ref 51, .ref 52, .int 0, .int 0, .int 0, .int 0, .ref 53, .int 0, .int 0, .ref 54, .ref 55, .ref 56, .int 0, .ref 57, .ref 58, .ref 59, .ref 60, .ref 61, .ref 62, .ref 63, .ref 64, .ref 65, .ref 66, .int 0, .int 0, .int 0, .ref 67, .ref 68, .int 0, .ref 69, .int 0, .int 0, .ref 70, .ref 71]) rfl rfl rfl (hh 41 (Nat.le_of_ble_eq_true rfl)) (Nat.le_of_ble_eq_true rfl) (Nat.le_of_ble_eq_true rfl) (Nat.le_of_ble_eq_true rfl) rfl (Or.inl rfl) rfl rfl ?_
      refine pm_R_lo pm_M173 (pc' := 6) rfl rfl rfl ?_
      refine pm_R_op pm_M173 (pc' := 7) (st' := [.int 0, .int x1]) rfl rfl rfl ?_
      refine pm_R_lo pm_M173 (pc' := 8) rfl rfl rfl ?_
      refine pm_R_get pm_M173 (pc' := 11) (v := .ref 43) rfl rfl rfl (Nat.le_of_ble_eq_true rfl) (Nat.le_of_ble_eq_true rfl) rfl rfl ?_
      refine pm_R_op pm_M173 (pc' := 12) (st' := [.int 0, .ref 43, .int 0, .int x1]) rfl rfl rfl ?_
      refine pm_R_iald pm_M173 (pc' := 13) (v := 0) rfl (hh 43 (Nat.le_of_ble_eq_true rfl)) (Nat.le_of_ble_eq_true rfl) rfl rfl rfl ?_
      refine pm_R_cs pm_M173 (pc' := 16) (ra := [.int 0, .int 0, .int x1]) (rest := []) (ls' := [.int x1, .int 0, .int 0]) rfl rfl (Or.inl rfl) pm_M174 rfl rfl (Nat.le_of_ble_eq_true rfl) rfl rfl ?_
      refine pm_R_lo pm_M174 (pc' := 1) rfl rfl rfl ?_
      refine pm_R_lo pm_M174 (pc' := 2) rfl rfl rfl ?_
      refine pm_R_icmp pm_M174 (t := 14) (pc' := 5) rfl rfl rfl (fun c_4 => by exact absurd c_4 c_1) (fun c_4 => ?_)
      refine pm_R_lo pm_M174 (pc' := 6) rfl rfl rfl ?_
      refine pm_R_lo pm_M174 (pc' := 7) rfl rfl rfl ?_
      refine pm_R_icmp pm_M174 (t := 14) (pc' := 10) rfl rfl rfl (fun c_5 => by first | exact absurd c_5 c_3 | exact absurd c_3 c_5 | exact absurd (Int32.not_lt.mp c_5) c_3 | exact absurd (Int32.not_le.mp c_5) c_3 | exact absurd (Int32.not_lt.mpr c_5) c_3 | exact absurd (Int32.not_le.mpr c_5) c_3 | exact absurd c_3 (Int32.not_le.mpr c_5) | exact absurd c_3 (Int32.not_lt.mpr c_5)) (fun c_5 => ?_)
      refine pm_R_op pm_M174 (pc' := 11) (st' := [.int 1]) rfl rfl rfl ?_
      refine pm_R_br pm_M174 (pc' := 15) rfl rfl ?_
      refine pm_R_ret pm_M174 (r := some (.int 1)) rfl rfl ?_
      show pm_R _ 173 16 [.ref 41, .int x1] [.int 1] _ _
      refine pm_R_br pm_M173 (pc' := 21) (st' := []) rfl rfl ?_
      refine pm_R_lo pm_M173 (pc' := 22) rfl rfl rfl ?_
      refine pm_R_get pm_M173 (pc' := 25) (v := .ref 43) rfl rfl rfl (Nat.le_of_ble_eq_true rfl) (Nat.le_of_ble_eq_true rfl) rfl rfl ?_
      refine pm_R_op pm_M173 (pc' := 26) (st' := [.int 0, .ref 43]) rfl rfl rfl ?_
      refine pm_R_lo pm_M173 (pc' := 27) rfl rfl rfl ?_
      refine pm_R_iast pm_M173 (pc' := 28) rfl (hh 43 (Nat.le_of_ble_eq_true rfl)) (Nat.le_of_ble_eq_true rfl) (Nat.le_of_ble_eq_true rfl) rfl rfl ?_
      refine pm_R_lo pm_M173 (pc' := 29) rfl rfl rfl ?_
      refine pm_R_ret pm_M173 (r := some (.int x1)) rfl (pm_ret_i _) ?_
      show pm_R _ 0 301 [.ref 0, .ref 16, .ref 41, .int 0] [.int x1, .int x1] _ _
      refine pm_R_icmp pm_M0 (t := 2121) (pc' := 304) (pm_q0_1 (Nat.le_of_ble_eq_true rfl)) rfl rfl (fun c_6 => ?_) (fun c_6 => absurd rfl c_6)
      exact p1_tail (hh 0 (Nat.le_of_ble_eq_true rfl)) (Nat.le_of_ble_eq_true rfl) (Nat.le_of_ble_eq_true rfl) (Nat.le_of_ble_eq_true rfl)
    · refine pm_R_op pm_M9 (pc' := 16) (st' := [.int (-1)]) rfl rfl rfl ?_
      refine pm_R_ret pm_M9 (r := some (.int (-1))) rfl rfl ?_
      show pm_R _ 0 292 [.ref 0, .ref 16, .ref 41, .int 0] [.int (-1)] _ _
      refine pm_R_lo pm_M0 (pc' := 293) (pm_q0_1 (Nat.le_of_ble_eq_true rfl)) rfl rfl ?_
      refine pm_R_lo pm_M0 (pc' := 294) (pm_q0_1 (Nat.le_of_ble_eq_true rfl)) rfl rfl ?_
      refine pm_R_lo pm_M0 (pc' := 295) (pm_q0_1 (Nat.le_of_ble_eq_true rfl)) rfl rfl ?_
      refine pm_R_op pm_M0 (pc' := 296) (st' := [.int 1, .int 0, .ref 0, .ref 41, .int (-1)]) (pm_q0_1 (Nat.le_of_ble_eq_true rfl)) rfl rfl ?_
      refine pm_R_op pm_M0 (pc' := 297) (st' := [.int 1, .ref 0, .ref 41, .int (-1)]) (pm_q0_1 (Nat.le_of_ble_eq_true rfl)) rfl rfl ?_
      refine pm_R_iald pm_M0 (pc' := 298) (v := x1) (pm_q0_1 (Nat.le_of_ble_eq_true rfl)) (hh 0 (Nat.le_of_ble_eq_true rfl)) (Nat.le_of_ble_eq_true rfl) rfl hx1 rfl ?_
      refine pm_R_cv pm_M0 (pc' := 301) (a := 41) (ra := [.int x1]) (rest := [.int (-1)]) (ls' := [.ref 41, .int x1]) (pm_q0_1 (Nat.le_of_ble_eq_true rfl)) rfl (Or.inl rfl) pm_M173 (hh 41 (Nat.le_of_ble_eq_true rfl)) rfl (Nat.le_of_ble_eq_true rfl) (Nat.le_of_ble_eq_true rfl) rfl rfl (Nat.le_of_ble_eq_true rfl) rfl rfl ?_
      refine pm_R_lo pm_M173 (pc' := 1) rfl rfl rfl ?_
      refine pm_R_op pm_M173 (pc' := 2) (st' := [.int 0, .ref 41]) rfl rfl rfl ?_
      refine pm_R_put pm_M173 (pc' := 5) (fs' := [.int 0, .ref 42, .ref 43, .ref 44, .ref 45, .ref 46, .ref 47, .ref 48, .ref 49, .ref 50, .int 0, .int 0, .int 0, .int 0, .int 0, .long 0, .int 0, .int 0, .int 0, .ref 51, .ref 52, .int 0, .int 0, .int 0, .int 0, .ref 53, .int 0, .int 0, .ref 54, .ref 55, .ref 56, .int 0, .ref 57, .ref 58, .ref 59, .ref 60, .ref 61, .ref 62, .ref 63, .ref 64, .ref 65, .ref 66, .int 0, .int 0, .int 0, .ref 67, .ref 68, .int 0, .ref 69, .int 0, .int 0, .ref 70, .ref 71]) rfl rfl rfl (hh 41 (Nat.le_of_ble_eq_true rfl)) (Nat.le_of_ble_eq_true rfl) (Nat.le_of_ble_eq_true rfl) (Nat.le_of_ble_eq_true rfl) rfl (Or.inl rfl) rfl rfl ?_
      refine pm_R_lo pm_M173 (pc' := 6) rfl rfl rfl ?_
      refine pm_R_op pm_M173 (pc' := 7) (st' := [.int 0, .int x1]) rfl rfl rfl ?_
      refine pm_R_lo pm_M173 (pc' := 8) rfl rfl rfl ?_
      refine pm_R_get pm_M173 (pc' := 11) (v := .ref 43) rfl rfl rfl (Nat.le_of_ble_eq_true rfl) (Nat.le_of_ble_eq_true rfl) rfl rfl ?_
      refine pm_R_op pm_M173 (pc' := 12) (st' := [.int 0, .ref 43, .int 0, .int x1]) rfl rfl rfl ?_
      refine pm_R_iald pm_M173 (pc' := 13) (v := 0) rfl (hh 43 (Nat.le_of_ble_eq_true rfl)) (Nat.le_of_ble_eq_true rfl) rfl rfl rfl ?_
      refine pm_R_cs pm_M173 (pc' := 16) (ra := [.int 0, .int 0, .int x1]) (rest := []) (ls' := [.int x1, .int 0, .int 0]) rfl rfl (Or.inl rfl) pm_M174 rfl rfl (Nat.le_of_ble_eq_true rfl) rfl rfl ?_
      refine pm_R_lo pm_M174 (pc' := 1) rfl rfl rfl ?_
      refine pm_R_lo pm_M174 (pc' := 2) rfl rfl rfl ?_
      refine pm_R_icmp pm_M174 (t := 14) (pc' := 5) rfl rfl rfl (fun c_7 => by exact absurd c_7 c_1) (fun c_7 => ?_)
      refine pm_R_lo pm_M174 (pc' := 6) rfl rfl rfl ?_
      refine pm_R_lo pm_M174 (pc' := 7) rfl rfl rfl ?_
      refine pm_R_icmp pm_M174 (t := 14) (pc' := 10) rfl rfl rfl (fun c_8 => ?_) (fun c_8 => by first | exact absurd c_8 c_3 | exact absurd c_3 c_8 | exact absurd (Int32.not_lt.mp c_8) c_3 | exact absurd (Int32.not_le.mp c_8) c_3 | exact absurd (Int32.not_lt.mpr c_8) c_3 | exact absurd (Int32.not_le.mpr c_8) c_3 | exact absurd c_3 (Int32.not_le.mpr c_8) | exact absurd c_3 (Int32.not_lt.mpr c_8))
      refine pm_R_op pm_M174 (pc' := 15) (st' := [.int 0]) rfl rfl rfl ?_
      refine pm_R_ret pm_M174 (r := some (.int 0)) rfl rfl ?_
      show pm_R _ 173 16 [.ref 41, .int x1] [.int 0] _ _
      refine pm_R_br pm_M173 (pc' := 19) (st' := []) rfl rfl ?_
      refine pm_R_op pm_M173 (pc' := 20) (st' := [.int (-1)]) rfl rfl rfl ?_
      refine pm_R_ret pm_M173 (r := some (.int (-1))) rfl rfl ?_
      show pm_R _ 0 301 [.ref 0, .ref 16, .ref 41, .int 0] [.int (-1), .int (-1)] _ _
      refine pm_R_br pm_M0 (pc' := 2121) (st' := []) (pm_q0_1 (Nat.le_of_ble_eq_true rfl)) rfl ?_
      exact p1_tail (hh 0 (Nat.le_of_ble_eq_true rfl)) (Nat.le_of_ble_eq_true rfl) (Nat.le_of_ble_eq_true rfl) (Nat.le_of_ble_eq_true rfl)
set_option maxRecDepth 100000 in
set_option maxHeartbeats 40000000 in
theorem p1_c2_lo (xs : Nat → Int32) (f : Nat → pm_E) (hh : ∀ i, i < 72 → f i = pm_fF 7 xs i) (x0 x1 x2 x3 x4 x5 x6 : Int32) (hx0 : xs 0 = x0) (hx1 : xs 1 = x1) (hx2 : xs 2 = x2) (hx3 : xs 3 = x3) (hx4 : xs 4 = x4) (hx5 : xs 5 = x5) (hx6 : xs 6 = x6) (hv : x1 < 0) : pm_R 100 0 306 [.ref 0, .ref 16, .ref 41, .int 0] [] (72, 52657, f) p1_Q := by
  refine pm_R_lo pm_M0 (pc' := 307) (pm_q0_1 (Nat.le_of_ble_eq_true rfl)) rfl rfl ?_
  refine pm_R_lo pm_M0 (pc' := 308) (pm_q0_1 (Nat.le_of_ble_eq_true rfl)) rfl rfl ?_
  refine pm_R_lo pm_M0 (pc' := 309) (pm_q0_1 (Nat.le_of_ble_eq_true rfl)) rfl rfl ?_
  refine pm_R_op pm_M0 (pc' := 310) (st' := [.int 1, .int 0, .ref 0, .ref 16]) (pm_q0_1 (Nat.le_of_ble_eq_true rfl)) rfl rfl ?_
  refine pm_R_op pm_M0 (pc' := 311) (st' := [.int 1, .ref 0, .ref 16]) (pm_q0_1 (Nat.le_of_ble_eq_true rfl)) rfl rfl ?_
  refine pm_R_iald pm_M0 (pc' := 312) (v := x1) (pm_q0_1 (Nat.le_of_ble_eq_true rfl)) (hh 0 (Nat.le_of_ble_eq_true rfl)) (Nat.le_of_ble_eq_true rfl) rfl hx1 rfl ?_
  refine pm_R_lo pm_M0 (pc' := 313) (pm_q0_1 (Nat.le_of_ble_eq_true rfl)) rfl rfl ?_
  refine pm_R_lo pm_M0 (pc' := 314) (pm_q0_1 (Nat.le_of_ble_eq_true rfl)) rfl rfl ?_
  refine pm_R_op pm_M0 (pc' := 315) (st' := [.int 2, .int 0, .ref 0, .int x1, .ref 16]) (pm_q0_1 (Nat.le_of_ble_eq_true rfl)) rfl rfl ?_
  refine pm_R_op pm_M0 (pc' := 316) (st' := [.int 2, .ref 0, .int x1, .ref 16]) (pm_q0_1 (Nat.le_of_ble_eq_true rfl)) rfl rfl ?_
  refine pm_R_iald pm_M0 (pc' := 317) (v := x2) (pm_q0_1 (Nat.le_of_ble_eq_true rfl)) (hh 0 (Nat.le_of_ble_eq_true rfl)) (Nat.le_of_ble_eq_true rfl) rfl hx2 rfl ?_
  refine pm_R_cv pm_M0 (pc' := 320) (a := 16) (ra := [.int x2, .int x1]) (rest := []) (ls' := [.ref 16, .int x1, .int x2, pm_no, pm_no, pm_no, pm_no]) (pm_q0_1 (Nat.le_of_ble_eq_true rfl)) rfl (Or.inl rfl) pm_M10 (hh 16 (Nat.le_of_ble_eq_true rfl)) rfl (Nat.le_of_ble_eq_true rfl) (Nat.le_of_ble_eq_true rfl) rfl rfl (Nat.le_of_ble_eq_true rfl) rfl rfl ?_
  refine pm_R_lo pm_M10 (pc' := 1) rfl rfl rfl ?_
  refine pm_R_get pm_M10 (pc' := 4) (v := .ref 17) rfl rfl (hh 16 (Nat.le_of_ble_eq_true rfl)) (Nat.le_of_ble_eq_true rfl) (Nat.le_of_ble_eq_true rfl) rfl rfl ?_
  refine pm_R_get pm_M10 (pc' := 7) (v := .int 0) rfl rfl (hh 17 (Nat.le_of_ble_eq_true rfl)) (Nat.le_of_ble_eq_true rfl) (Nat.le_of_ble_eq_true rfl) rfl rfl ?_
  refine pm_R_lo pm_M10 (pc' := 8) (ls' := [.ref 16, .int x1, .int x2, .int 0, pm_no, pm_no, pm_no]) (st' := []) rfl rfl rfl ?_
  refine pm_R_lo pm_M10 (pc' := 9) rfl rfl rfl ?_
  refine pm_R_get pm_M10 (pc' := 12) (v := .ref 17) rfl rfl (hh 16 (Nat.le_of_ble_eq_true rfl)) (Nat.le_of_ble_eq_true rfl) (Nat.le_of_ble_eq_true rfl) rfl rfl ?_
  refine pm_R_op pm_M10 (pc' := 13) (st' := [.int 0, .ref 17]) rfl rfl rfl ?_
  refine pm_R_put pm_M10 (pc' := 16) (fs' := [.ref 18, .int 0, .int 0, .int (-1), .ref 19, .ref 20, .ref 21, .ref 22, .ref 23]) rfl rfl rfl (hh 17 (Nat.le_of_ble_eq_true rfl)) (Nat.le_of_ble_eq_true rfl) (Nat.le_of_ble_eq_true rfl) (Nat.le_of_ble_eq_true rfl) rfl (Or.inl rfl) rfl rfl ?_
  refine pm_R_lo pm_M10 (pc' := 17) rfl rfl rfl ?_
  refine pm_R_get pm_M10 (pc' := 20) (v := .ref 17) rfl rfl (hh 16 (Nat.le_of_ble_eq_true rfl)) (Nat.le_of_ble_eq_true rfl) (Nat.le_of_ble_eq_true rfl) rfl rfl ?_
  refine pm_R_op pm_M10 (pc' := 21) (st' := [.int 0, .ref 17]) rfl rfl rfl ?_
  refine pm_R_put pm_M10 (pc' := 24) (fs' := [.ref 18, .int 0, .int 0, .int (-1), .ref 19, .ref 20, .ref 21, .ref 22, .ref 23]) rfl rfl rfl rfl (Nat.le_of_ble_eq_true rfl) (Nat.le_of_ble_eq_true rfl) (Nat.le_of_ble_eq_true rfl) rfl (Or.inl rfl) rfl rfl ?_
  refine pm_R_lo pm_M10 (pc' := 25) rfl rfl rfl ?_
  refine pm_R_get pm_M10 (pc' := 28) (v := .ref 17) rfl rfl (hh 16 (Nat.le_of_ble_eq_true rfl)) (Nat.le_of_ble_eq_true rfl) (Nat.le_of_ble_eq_true rfl) rfl rfl ?_
  refine pm_R_op pm_M10 (pc' := 29) (st' := [.int (-1), .ref 17]) rfl rfl rfl ?_
  refine pm_R_put pm_M10 (pc' := 32) (fs' := [.ref 18, .int 0, .int 0, .int (-1), .ref 19, .ref 20, .ref 21, .ref 22, .ref 23]) rfl rfl rfl rfl (Nat.le_of_ble_eq_true rfl) (Nat.le_of_ble_eq_true rfl) (Nat.le_of_ble_eq_true rfl) rfl (Or.inl rfl) rfl rfl ?_
  refine pm_R_lo pm_M10 (pc' := 33) rfl rfl rfl ?_
  refine pm_R_ifc pm_M10 (t := 41) (pc' := 36) rfl rfl rfl (fun c_1 => ?_) (fun c_1 => by exact absurd hv c_1)
  refine pm_R_op pm_M10 (pc' := 43) (st' := [.int (-2)]) rfl rfl rfl ?_
  refine pm_R_ret pm_M10 (r := some (.int (-2))) rfl rfl ?_
  show pm_R _ 0 320 [.ref 0, .ref 16, .ref 41, .int 0] [.int (-2)] _ _
  refine pm_R_lo pm_M0 (pc' := 321) (pm_q0_1 (Nat.le_of_ble_eq_true rfl)) rfl rfl ?_
  refine pm_R_lo pm_M0 (pc' := 322) (pm_q0_1 (Nat.le_of_ble_eq_true rfl)) rfl rfl ?_
  refine pm_R_lo pm_M0 (pc' := 323) (pm_q0_1 (Nat.le_of_ble_eq_true rfl)) rfl rfl ?_
  refine pm_R_op pm_M0 (pc' := 324) (st' := [.int 1, .int 0, .ref 0, .ref 41, .int (-2)]) (pm_q0_1 (Nat.le_of_ble_eq_true rfl)) rfl rfl ?_
  refine pm_R_op pm_M0 (pc' := 325) (st' := [.int 1, .ref 0, .ref 41, .int (-2)]) (pm_q0_1 (Nat.le_of_ble_eq_true rfl)) rfl rfl ?_
  refine pm_R_iald pm_M0 (pc' := 326) (v := x1) (pm_q0_1 (Nat.le_of_ble_eq_true rfl)) (hh 0 (Nat.le_of_ble_eq_true rfl)) (Nat.le_of_ble_eq_true rfl) rfl hx1 rfl ?_
  refine pm_R_lo pm_M0 (pc' := 327) (pm_q0_1 (Nat.le_of_ble_eq_true rfl)) rfl rfl ?_
  refine pm_R_lo pm_M0 (pc' := 328) (pm_q0_1 (Nat.le_of_ble_eq_true rfl)) rfl rfl ?_
  refine pm_R_op pm_M0 (pc' := 329) (st' := [.int 2, .int 0, .ref 0, .int x1, .ref 41, .int (-2)]) (pm_q0_1 (Nat.le_of_ble_eq_true rfl)) rfl rfl ?_
  refine pm_R_op pm_M0 (pc' := 330) (st' := [.int 2, .ref 0, .int x1, .ref 41, .int (-2)]) (pm_q0_1 (Nat.le_of_ble_eq_true rfl)) rfl rfl ?_
  refine pm_R_iald pm_M0 (pc' := 331) (v := x2) (pm_q0_1 (Nat.le_of_ble_eq_true rfl)) (hh 0 (Nat.le_of_ble_eq_true rfl)) (Nat.le_of_ble_eq_true rfl) rfl hx2 rfl ?_
  refine pm_R_cv pm_M0 (pc' := 334) (a := 41) (ra := [.int x2, .int x1]) (rest := [.int (-2)]) (ls' := [.ref 41, .int x1, .int x2, pm_no]) (pm_q0_1 (Nat.le_of_ble_eq_true rfl)) rfl (Or.inl rfl) pm_M175 (hh 41 (Nat.le_of_ble_eq_true rfl)) rfl (Nat.le_of_ble_eq_true rfl) (Nat.le_of_ble_eq_true rfl) rfl rfl (Nat.le_of_ble_eq_true rfl) rfl rfl ?_
  refine pm_R_lo pm_M175 (pc' := 1) rfl rfl rfl ?_
  refine pm_R_op pm_M175 (pc' := 2) (st' := [.int 0, .ref 41]) rfl rfl rfl ?_
  refine pm_R_put pm_M175 (pc' := 5) (fs' := [.int 0, .ref 42, .ref 43, .ref 44, .ref 45, .ref 46, .ref 47, .ref 48, .ref 49, .ref 50, .int 0, .int 0, .int 0, .int 0, .int 0, .long 0, .int 0, .int 0, .int 0, .ref 51, .ref 52, .int 0, .int 0, .int 0, .int 0, .ref 53, .int 0, .int 0, .ref 54, .ref 55, .ref 56, .int 0, .ref 57, .ref 58, .ref 59, .ref 60, .ref 61, .ref 62, .ref 63, .ref 64, .ref 65, .ref 66, .int 0, .int 0, .int 0, .ref 67, .ref 68, .int 0, .ref 69, .int 0, .int 0, .ref 70, .ref 71]) rfl rfl rfl (hh 41 (Nat.le_of_ble_eq_true rfl)) (Nat.le_of_ble_eq_true rfl) (Nat.le_of_ble_eq_true rfl) (Nat.le_of_ble_eq_true rfl) rfl (Or.inl rfl) rfl rfl ?_
  refine pm_R_lo pm_M175 (pc' := 6) rfl rfl rfl ?_
  refine pm_R_lo pm_M175 (pc' := 7) rfl rfl rfl ?_
  refine pm_R_get pm_M175 (pc' := 10) (v := .ref 43) rfl rfl rfl (Nat.le_of_ble_eq_true rfl) (Nat.le_of_ble_eq_true rfl) rfl rfl ?_
  refine pm_R_op pm_M175 (pc' := 11) (st' := [.int 0, .ref 43, .ref 41]) rfl rfl rfl ?_
  refine pm_R_iald pm_M175 (pc' := 12) (v := 0) rfl (hh 43 (Nat.le_of_ble_eq_true rfl)) (Nat.le_of_ble_eq_true rfl) rfl rfl rfl ?_
  refine pm_R_put pm_M175 (pc' := 15) (fs' := [.int 0, .ref 42, .ref 43, .ref 44, .ref 45, .ref 46, .ref 47, .ref 48, .ref 49, .ref 50, .int 0, .int 0, .int 0, .int 0, .int 0, .long 0, .int 0, .int 0, .int 0, .ref 51, .ref 52, .int 0, .int 0, .int 0, .int 0, .ref 53, .int 0, .int 0, .ref 54, .ref 55, .ref 56, .int 0, .ref 57, .ref 58, .ref 59, .ref 60, .ref 61, .ref 62, .ref 63, .ref 64, .ref 65, .ref 66, .int 0, .int 0, .int 0, .ref 67, .ref 68, .int 0, .ref 69, .int 0, .int 0, .ref 70, .ref 71]) rfl rfl rfl rfl (Nat.le_of_ble_eq_true rfl) (Nat.le_of_ble_eq_true rfl) (Nat.le_of_ble_eq_true rfl) rfl (Or.inl rfl) rfl rfl ?_
  refine pm_R_lo pm_M175 (pc' := 16) rfl rfl rfl ?_
  refine pm_R_get pm_M175 (pc' := 19) (v := .ref 43) rfl rfl rfl (Nat.le_of_ble_eq_true rfl) (Nat.le_of_ble_eq_true rfl) rfl rfl ?_
  refine pm_R_op pm_M175 (pc' := 20) (st' := [.int 0, .ref 43]) rfl rfl rfl ?_
  refine pm_R_op pm_M175 (pc' := 21) (st' := [.int 0, .int 0, .ref 43]) rfl rfl rfl ?_
  refine pm_R_iast pm_M175 (pc' := 22) rfl (hh 43 (Nat.le_of_ble_eq_true rfl)) (Nat.le_of_ble_eq_true rfl) (Nat.le_of_ble_eq_true rfl) rfl rfl ?_
  refine pm_R_lo pm_M175 (pc' := 23) rfl rfl rfl ?_
  refine pm_R_get pm_M175 (pc' := 26) (v := .ref 44) rfl rfl rfl (Nat.le_of_ble_eq_true rfl) (Nat.le_of_ble_eq_true rfl) rfl rfl ?_
  refine pm_R_op pm_M175 (pc' := 27) (st' := [.int 0, .ref 44]) rfl rfl rfl ?_
  refine pm_R_op pm_M175 (pc' := 28) (st' := [.int 0, .int 0, .ref 44]) rfl rfl rfl ?_
  refine pm_R_iast pm_M175 (pc' := 29) rfl (hh 44 (Nat.le_of_ble_eq_true rfl)) (Nat.le_of_ble_eq_true rfl) (Nat.le_of_ble_eq_true rfl) rfl rfl ?_
  refine pm_R_lo pm_M175 (pc' := 30) rfl rfl rfl ?_
  refine pm_R_get pm_M175 (pc' := 33) (v := .ref 45) rfl rfl rfl (Nat.le_of_ble_eq_true rfl) (Nat.le_of_ble_eq_true rfl) rfl rfl ?_
  refine pm_R_op pm_M175 (pc' := 34) (st' := [.int 0, .ref 45]) rfl rfl rfl ?_
  refine pm_R_op pm_M175 (pc' := 35) (st' := [.int (-1), .int 0, .ref 45]) rfl rfl rfl ?_
  refine pm_R_iast pm_M175 (pc' := 36) rfl (hh 45 (Nat.le_of_ble_eq_true rfl)) (Nat.le_of_ble_eq_true rfl) (Nat.le_of_ble_eq_true rfl) rfl rfl ?_
  refine pm_R_lo pm_M175 (pc' := 37) rfl rfl rfl ?_
  refine pm_R_op pm_M175 (pc' := 38) (st' := [.int 0, .int x1]) rfl rfl rfl ?_
  refine pm_R_op pm_M175 (pc' := 39) (st' := [.int 3, .int 0, .int x1]) rfl rfl rfl ?_
  refine pm_R_cs pm_M175 (pc' := 42) (ra := [.int 3, .int 0, .int x1]) (rest := []) (ls' := [.int x1, .int 0, .int 3]) rfl rfl (Or.inl rfl) pm_M174 rfl rfl (Nat.le_of_ble_eq_true rfl) rfl rfl ?_
  refine pm_R_lo pm_M174 (pc' := 1) rfl rfl rfl ?_
  refine pm_R_lo pm_M174 (pc' := 2) rfl rfl rfl ?_
  refine pm_R_icmp pm_M174 (t := 14) (pc' := 5) rfl rfl rfl (fun c_2 => ?_) (fun c_2 => by exact absurd hv c_2)
  refine pm_R_op pm_M174 (pc' := 15) (st' := [.int 0]) rfl rfl rfl ?_
  refine pm_R_ret pm_M174 (r := some (.int 0)) rfl rfl ?_
  show pm_R _ 175 42 [.ref 41, .int x1, .int x2, pm_no] [.int 0] _ _
  refine pm_R_br pm_M175 (pc' := 75) (st' := []) rfl rfl ?_
  refine pm_R_op pm_M175 (pc' := 77) (st' := [.int (-2)]) rfl rfl rfl ?_
  refine pm_R_ret pm_M175 (r := some (.int (-2))) rfl rfl ?_
  show pm_R _ 0 334 [.ref 0, .ref 16, .ref 41, .int 0] [.int (-2), .int (-2)] _ _
  refine pm_R_br pm_M0 (pc' := 2121) (st' := []) (pm_q0_2 (Nat.le_of_ble_eq_true rfl)) rfl ?_
  exact p1_tail (hh 0 (Nat.le_of_ble_eq_true rfl)) (Nat.le_of_ble_eq_true rfl) (Nat.le_of_ble_eq_true rfl) (Nat.le_of_ble_eq_true rfl)
set_option maxRecDepth 100000 in
set_option maxHeartbeats 40000000 in
theorem p1_c2_hi (xs : Nat → Int32) (f : Nat → pm_E) (hh : ∀ i, i < 72 → f i = pm_fF 7 xs i) (x0 x1 x2 x3 x4 x5 x6 : Int32) (hx0 : xs 0 = x0) (hx1 : xs 1 = x1) (hx2 : xs 2 = x2) (hx3 : xs 3 = x3) (hx4 : xs 4 = x4) (hx5 : xs 5 = x5) (hx6 : xs 6 = x6) (hv : (4 : Int32) ≤ x1) : pm_R 100 0 306 [.ref 0, .ref 16, .ref 41, .int 0] [] (72, 52657, f) p1_Q := by
  have hv0 : ¬ x1 < 0 := fun q => absurd (Int32.lt_of_lt_of_le q (by decide : (0 : Int32) ≤ 4)) (fun q2 => absurd hv (Int32.not_le.mpr q2))
  have hv1 : (3 : Int32) < x1 := Int32.lt_of_lt_of_le (by decide) hv
  refine pm_R_lo pm_M0 (pc' := 307) (pm_q0_1 (Nat.le_of_ble_eq_true rfl)) rfl rfl ?_
  refine pm_R_lo pm_M0 (pc' := 308) (pm_q0_1 (Nat.le_of_ble_eq_true rfl)) rfl rfl ?_
  refine pm_R_lo pm_M0 (pc' := 309) (pm_q0_1 (Nat.le_of_ble_eq_true rfl)) rfl rfl ?_
  refine pm_R_op pm_M0 (pc' := 310) (st' := [.int 1, .int 0, .ref 0, .ref 16]) (pm_q0_1 (Nat.le_of_ble_eq_true rfl)) rfl rfl ?_
  refine pm_R_op pm_M0 (pc' := 311) (st' := [.int 1, .ref 0, .ref 16]) (pm_q0_1 (Nat.le_of_ble_eq_true rfl)) rfl rfl ?_
  refine pm_R_iald pm_M0 (pc' := 312) (v := x1) (pm_q0_1 (Nat.le_of_ble_eq_true rfl)) (hh 0 (Nat.le_of_ble_eq_true rfl)) (Nat.le_of_ble_eq_true rfl) rfl hx1 rfl ?_
  refine pm_R_lo pm_M0 (pc' := 313) (pm_q0_1 (Nat.le_of_ble_eq_true rfl)) rfl rfl ?_
  refine pm_R_lo pm_M0 (pc' := 314) (pm_q0_1 (Nat.le_of_ble_eq_true rfl)) rfl rfl ?_
  refine pm_R_op pm_M0 (pc' := 315) (st' := [.int 2, .int 0, .ref 0, .int x1, .ref 16]) (pm_q0_1 (Nat.le_of_ble_eq_true rfl)) rfl rfl ?_
  refine pm_R_op pm_M0 (pc' := 316) (st' := [.int 2, .ref 0, .int x1, .ref 16]) (pm_q0_1 (Nat.le_of_ble_eq_true rfl)) rfl rfl ?_
  refine pm_R_iald pm_M0 (pc' := 317) (v := x2) (pm_q0_1 (Nat.le_of_ble_eq_true rfl)) (hh 0 (Nat.le_of_ble_eq_true rfl)) (Nat.le_of_ble_eq_true rfl) rfl hx2 rfl ?_
  refine pm_R_cv pm_M0 (pc' := 320) (a := 16) (ra := [.int x2, .int x1]) (rest := []) (ls' := [.ref 16, .int x1, .int x2, pm_no, pm_no, pm_no, pm_no]) (pm_q0_1 (Nat.le_of_ble_eq_true rfl)) rfl (Or.inl rfl) pm_M10 (hh 16 (Nat.le_of_ble_eq_true rfl)) rfl (Nat.le_of_ble_eq_true rfl) (Nat.le_of_ble_eq_true rfl) rfl rfl (Nat.le_of_ble_eq_true rfl) rfl rfl ?_
  refine pm_R_lo pm_M10 (pc' := 1) rfl rfl rfl ?_
  refine pm_R_get pm_M10 (pc' := 4) (v := .ref 17) rfl rfl (hh 16 (Nat.le_of_ble_eq_true rfl)) (Nat.le_of_ble_eq_true rfl) (Nat.le_of_ble_eq_true rfl) rfl rfl ?_
  refine pm_R_get pm_M10 (pc' := 7) (v := .int 0) rfl rfl (hh 17 (Nat.le_of_ble_eq_true rfl)) (Nat.le_of_ble_eq_true rfl) (Nat.le_of_ble_eq_true rfl) rfl rfl ?_
  refine pm_R_lo pm_M10 (pc' := 8) (ls' := [.ref 16, .int x1, .int x2, .int 0, pm_no, pm_no, pm_no]) (st' := []) rfl rfl rfl ?_
  refine pm_R_lo pm_M10 (pc' := 9) rfl rfl rfl ?_
  refine pm_R_get pm_M10 (pc' := 12) (v := .ref 17) rfl rfl (hh 16 (Nat.le_of_ble_eq_true rfl)) (Nat.le_of_ble_eq_true rfl) (Nat.le_of_ble_eq_true rfl) rfl rfl ?_
  refine pm_R_op pm_M10 (pc' := 13) (st' := [.int 0, .ref 17]) rfl rfl rfl ?_
  refine pm_R_put pm_M10 (pc' := 16) (fs' := [.ref 18, .int 0, .int 0, .int (-1), .ref 19, .ref 20, .ref 21, .ref 22, .ref 23]) rfl rfl rfl (hh 17 (Nat.le_of_ble_eq_true rfl)) (Nat.le_of_ble_eq_true rfl) (Nat.le_of_ble_eq_true rfl) (Nat.le_of_ble_eq_true rfl) rfl (Or.inl rfl) rfl rfl ?_
  refine pm_R_lo pm_M10 (pc' := 17) rfl rfl rfl ?_
  refine pm_R_get pm_M10 (pc' := 20) (v := .ref 17) rfl rfl (hh 16 (Nat.le_of_ble_eq_true rfl)) (Nat.le_of_ble_eq_true rfl) (Nat.le_of_ble_eq_true rfl) rfl rfl ?_
  refine pm_R_op pm_M10 (pc' := 21) (st' := [.int 0, .ref 17]) rfl rfl rfl ?_
  refine pm_R_put pm_M10 (pc' := 24) (fs' := [.ref 18, .int 0, .int 0, .int (-1), .ref 19, .ref 20, .ref 21, .ref 22, .ref 23]) rfl rfl rfl rfl (Nat.le_of_ble_eq_true rfl) (Nat.le_of_ble_eq_true rfl) (Nat.le_of_ble_eq_true rfl) rfl (Or.inl rfl) rfl rfl ?_
  refine pm_R_lo pm_M10 (pc' := 25) rfl rfl rfl ?_
  refine pm_R_get pm_M10 (pc' := 28) (v := .ref 17) rfl rfl (hh 16 (Nat.le_of_ble_eq_true rfl)) (Nat.le_of_ble_eq_true rfl) (Nat.le_of_ble_eq_true rfl) rfl rfl ?_
  refine pm_R_op pm_M10 (pc' := 29) (st' := [.int (-1), .ref 17]) rfl rfl rfl ?_
  refine pm_R_put pm_M10 (pc' := 32) (fs' := [.ref 18, .int 0, .int 0, .int (-1), .ref 19, .ref 20, .ref 21, .ref 22, .ref 23]) rfl rfl rfl rfl (Nat.le_of_ble_eq_true rfl) (Nat.le_of_ble_eq_true rfl) (Nat.le_of_ble_eq_true rfl) rfl (Or.inl rfl) rfl rfl ?_
  refine pm_R_lo pm_M10 (pc' := 33) rfl rfl rfl ?_
  refine pm_R_ifc pm_M10 (t := 41) (pc' := 36) rfl rfl rfl (fun c_1 => by exact absurd c_1 hv0) (fun c_1 => ?_)
  refine pm_R_lo pm_M10 (pc' := 37) rfl rfl rfl ?_
  refine pm_R_op pm_M10 (pc' := 38) (st' := [.int 4, .int x1]) rfl rfl rfl ?_
  refine pm_R_icmp pm_M10 (t := 44) (pc' := 41) rfl rfl rfl (fun c_2 => by first | exact absurd c_2 hv | exact absurd hv c_2 | exact absurd (Int32.not_lt.mp c_2) hv | exact absurd (Int32.not_le.mp c_2) hv | exact absurd (Int32.not_lt.mpr c_2) hv | exact absurd (Int32.not_le.mpr c_2) hv | exact absurd hv (Int32.not_le.mpr c_2) | exact absurd hv (Int32.not_lt.mpr c_2)) (fun c_2 => ?_)
  refine pm_R_op pm_M10 (pc' := 43) (st' := [.int (-2)]) rfl rfl rfl ?_
  refine pm_R_ret pm_M10 (r := some (.int (-2))) rfl rfl ?_
  show pm_R _ 0 320 [.ref 0, .ref 16, .ref 41, .int 0] [.int (-2)] _ _
  refine pm_R_lo pm_M0 (pc' := 321) (pm_q0_1 (Nat.le_of_ble_eq_true rfl)) rfl rfl ?_
  refine pm_R_lo pm_M0 (pc' := 322) (pm_q0_1 (Nat.le_of_ble_eq_true rfl)) rfl rfl ?_
  refine pm_R_lo pm_M0 (pc' := 323) (pm_q0_1 (Nat.le_of_ble_eq_true rfl)) rfl rfl ?_
  refine pm_R_op pm_M0 (pc' := 324) (st' := [.int 1, .int 0, .ref 0, .ref 41, .int (-2)]) (pm_q0_1 (Nat.le_of_ble_eq_true rfl)) rfl rfl ?_
  refine pm_R_op pm_M0 (pc' := 325) (st' := [.int 1, .ref 0, .ref 41, .int (-2)]) (pm_q0_1 (Nat.le_of_ble_eq_true rfl)) rfl rfl ?_
  refine pm_R_iald pm_M0 (pc' := 326) (v := x1) (pm_q0_1 (Nat.le_of_ble_eq_true rfl)) (hh 0 (Nat.le_of_ble_eq_true rfl)) (Nat.le_of_ble_eq_true rfl) rfl hx1 rfl ?_
  refine pm_R_lo pm_M0 (pc' := 327) (pm_q0_1 (Nat.le_of_ble_eq_true rfl)) rfl rfl ?_
  refine pm_R_lo pm_M0 (pc' := 328) (pm_q0_1 (Nat.le_of_ble_eq_true rfl)) rfl rfl ?_
  refine pm_R_op pm_M0 (pc' := 329) (st' := [.int 2, .int 0, .ref 0, .int x1, .ref 41, .int (-2)]) (pm_q0_1 (Nat.le_of_ble_eq_true rfl)) rfl rfl ?_
  refine pm_R_op pm_M0 (pc' := 330) (st' := [.int 2, .ref 0, .int x1, .ref 41, .int (-2)]) (pm_q0_1 (Nat.le_of_ble_eq_true rfl)) rfl rfl ?_
  refine pm_R_iald pm_M0 (pc' := 331) (v := x2) (pm_q0_1 (Nat.le_of_ble_eq_true rfl)) (hh 0 (Nat.le_of_ble_eq_true rfl)) (Nat.le_of_ble_eq_true rfl) rfl hx2 rfl ?_
  refine pm_R_cv pm_M0 (pc' := 334) (a := 41) (ra := [.int x2, .int x1]) (rest := [.int (-2)]) (ls' := [.ref 41, .int x1, .int x2, pm_no]) (pm_q0_1 (Nat.le_of_ble_eq_true rfl)) rfl (Or.inl rfl) pm_M175 (hh 41 (Nat.le_of_ble_eq_true rfl)) rfl (Nat.le_of_ble_eq_true rfl) (Nat.le_of_ble_eq_true rfl) rfl rfl (Nat.le_of_ble_eq_true rfl) rfl rfl ?_
  refine pm_R_lo pm_M175 (pc' := 1) rfl rfl rfl ?_
  refine pm_R_op pm_M175 (pc' := 2) (st' := [.int 0, .ref 41]) rfl rfl rfl ?_
  refine pm_R_put pm_M175 (pc' := 5) (fs' := [.int 0, .ref 42, .ref 43, .ref 44, .ref 45, .ref 46, .ref 47, .ref 48, .ref 49, .ref 50, .int 0, .int 0, .int 0, .int 0, .int 0, .long 0, .int 0, .int 0, .int 0, .ref 51, .ref 52, .int 0, .int 0, .int 0, .int 0, .ref 53, .int 0, .int 0, .ref 54, .ref 55, .ref 56, .int 0, .ref 57, .ref 58, .ref 59, .ref 60, .ref 61, .ref 62, .ref 63, .ref 64, .ref 65, .ref 66, .int 0, .int 0, .int 0, .ref 67, .ref 68, .int 0, .ref 69, .int 0, .int 0, .ref 70, .ref 71]) rfl rfl rfl (hh 41 (Nat.le_of_ble_eq_true rfl)) (Nat.le_of_ble_eq_true rfl) (Nat.le_of_ble_eq_true rfl) (Nat.le_of_ble_eq_true rfl) rfl (Or.inl rfl) rfl rfl ?_
  refine pm_R_lo pm_M175 (pc' := 6) rfl rfl rfl ?_
  refine pm_R_lo pm_M175 (pc' := 7) rfl rfl rfl ?_
  refine pm_R_get pm_M175 (pc' := 10) (v := .ref 43) rfl rfl rfl (Nat.le_of_ble_eq_true rfl) (Nat.le_of_ble_eq_true rfl) rfl rfl ?_
  refine pm_R_op pm_M175 (pc' := 11) (st' := [.int 0, .ref 43, .ref 41]) rfl rfl rfl ?_
  refine pm_R_iald pm_M175 (pc' := 12) (v := 0) rfl (hh 43 (Nat.le_of_ble_eq_true rfl)) (Nat.le_of_ble_eq_true rfl) rfl rfl rfl ?_
  refine pm_R_put pm_M175 (pc' := 15) (fs' := [.int 0, .ref 42, .ref 43, .ref 44, .ref 45, .ref 46, .ref 47, .ref 48, .ref 49, .ref 50, .int 0, .int 0, .int 0, .int 0, .int 0, .long 0, .int 0, .int 0, .int 0, .ref 51, .ref 52, .int 0, .int 0, .int 0, .int 0, .ref 53, .int 0, .int 0, .ref 54, .ref 55, .ref 56, .int 0, .ref 57, .ref 58, .ref 59, .ref 60, .ref 61, .ref 62, .ref 63, .ref 64, .ref 65, .ref 66, .int 0, .int 0, .int 0, .ref 67, .ref 68, .int 0, .ref 69, .int 0, .int 0, .ref 70, .ref 71]) rfl rfl rfl rfl (Nat.le_of_ble_eq_true rfl) (Nat.le_of_ble_eq_true rfl) (Nat.le_of_ble_eq_true rfl) rfl (Or.inl rfl) rfl rfl ?_
  refine pm_R_lo pm_M175 (pc' := 16) rfl rfl rfl ?_
  refine pm_R_get pm_M175 (pc' := 19) (v := .ref 43) rfl rfl rfl (Nat.le_of_ble_eq_true rfl) (Nat.le_of_ble_eq_true rfl) rfl rfl ?_
  refine pm_R_op pm_M175 (pc' := 20) (st' := [.int 0, .ref 43]) rfl rfl rfl ?_
  refine pm_R_op pm_M175 (pc' := 21) (st' := [.int 0, .int 0, .ref 43]) rfl rfl rfl ?_
  refine pm_R_iast pm_M175 (pc' := 22) rfl (hh 43 (Nat.le_of_ble_eq_true rfl)) (Nat.le_of_ble_eq_true rfl) (Nat.le_of_ble_eq_true rfl) rfl rfl ?_
  refine pm_R_lo pm_M175 (pc' := 23) rfl rfl rfl ?_
  refine pm_R_get pm_M175 (pc' := 26) (v := .ref 44) rfl rfl rfl (Nat.le_of_ble_eq_true rfl) (Nat.le_of_ble_eq_true rfl) rfl rfl ?_
  refine pm_R_op pm_M175 (pc' := 27) (st' := [.int 0, .ref 44]) rfl rfl rfl ?_
  refine pm_R_op pm_M175 (pc' := 28) (st' := [.int 0, .int 0, .ref 44]) rfl rfl rfl ?_
  refine pm_R_iast pm_M175 (pc' := 29) rfl (hh 44 (Nat.le_of_ble_eq_true rfl)) (Nat.le_of_ble_eq_true rfl) (Nat.le_of_ble_eq_true rfl) rfl rfl ?_
  refine pm_R_lo pm_M175 (pc' := 30) rfl rfl rfl ?_
  refine pm_R_get pm_M175 (pc' := 33) (v := .ref 45) rfl rfl rfl (Nat.le_of_ble_eq_true rfl) (Nat.le_of_ble_eq_true rfl) rfl rfl ?_
  refine pm_R_op pm_M175 (pc' := 34) (st' := [.int 0, .ref 45]) rfl rfl rfl ?_
  refine pm_R_op pm_M175 (pc' := 35) (st' := [.int (-1), .int 0, .ref 45]) rfl rfl rfl ?_
  refine pm_R_iast pm_M175 (pc' := 36) rfl (hh 45 (Nat.le_of_ble_eq_true rfl)) (Nat.le_of_ble_eq_true rfl) (Nat.le_of_ble_eq_true rfl) rfl rfl ?_
  refine pm_R_lo pm_M175 (pc' := 37) rfl rfl rfl ?_
  refine pm_R_op pm_M175 (pc' := 38) (st' := [.int 0, .int x1]) rfl rfl rfl ?_
  refine pm_R_op pm_M175 (pc' := 39) (st' := [.int 3, .int 0, .int x1]) rfl rfl rfl ?_
  refine pm_R_cs pm_M175 (pc' := 42) (ra := [.int 3, .int 0, .int x1]) (rest := []) (ls' := [.int x1, .int 0, .int 3]) rfl rfl (Or.inl rfl) pm_M174 rfl rfl (Nat.le_of_ble_eq_true rfl) rfl rfl ?_
  refine pm_R_lo pm_M174 (pc' := 1) rfl rfl rfl ?_
  refine pm_R_lo pm_M174 (pc' := 2) rfl rfl rfl ?_
  refine pm_R_icmp pm_M174 (t := 14) (pc' := 5) rfl rfl rfl (fun c_3 => by exact absurd c_3 hv0) (fun c_3 => ?_)
  refine pm_R_lo pm_M174 (pc' := 6) rfl rfl rfl ?_
  refine pm_R_lo pm_M174 (pc' := 7) rfl rfl rfl ?_
  refine pm_R_icmp pm_M174 (t := 14) (pc' := 10) rfl rfl rfl (fun c_4 => ?_) (fun c_4 => by exact absurd hv1 c_4)
  refine pm_R_op pm_M174 (pc' := 15) (st' := [.int 0]) rfl rfl rfl ?_
  refine pm_R_ret pm_M174 (r := some (.int 0)) rfl rfl ?_
  show pm_R _ 175 42 [.ref 41, .int x1, .int x2, pm_no] [.int 0] _ _
  refine pm_R_br pm_M175 (pc' := 75) (st' := []) rfl rfl ?_
  refine pm_R_op pm_M175 (pc' := 77) (st' := [.int (-2)]) rfl rfl rfl ?_
  refine pm_R_ret pm_M175 (r := some (.int (-2))) rfl rfl ?_
  show pm_R _ 0 334 [.ref 0, .ref 16, .ref 41, .int 0] [.int (-2), .int (-2)] _ _
  refine pm_R_br pm_M0 (pc' := 2121) (st' := []) (pm_q0_2 (Nat.le_of_ble_eq_true rfl)) rfl ?_
  exact p1_tail (hh 0 (Nat.le_of_ble_eq_true rfl)) (Nat.le_of_ble_eq_true rfl) (Nat.le_of_ble_eq_true rfl) (Nat.le_of_ble_eq_true rfl)
set_option maxRecDepth 100000 in
set_option maxHeartbeats 40000000 in
theorem p1_c2_eq0 (xs : Nat → Int32) (f : Nat → pm_E) (hh : ∀ i, i < 72 → f i = pm_fF 7 xs i) (x0 x1 x2 x3 x4 x5 x6 : Int32) (hx0 : xs 0 = x0) (hx1 : xs 1 = x1) (hx2 : xs 2 = x2) (hx3 : xs 3 = x3) (hx4 : xs 4 = x4) (hx5 : xs 5 = x5) (hx6 : xs 6 = x6) (hv : x1 = 0) : pm_R 100 0 306 [.ref 0, .ref 16, .ref 41, .int 0] [] (72, 52657, f) p1_Q := by
  subst hv
  refine pm_R_lo pm_M0 (pc' := 307) (pm_q0_1 (Nat.le_of_ble_eq_true rfl)) rfl rfl ?_
  refine pm_R_lo pm_M0 (pc' := 308) (pm_q0_1 (Nat.le_of_ble_eq_true rfl)) rfl rfl ?_
  refine pm_R_lo pm_M0 (pc' := 309) (pm_q0_1 (Nat.le_of_ble_eq_true rfl)) rfl rfl ?_
  refine pm_R_op pm_M0 (pc' := 310) (st' := [.int 1, .int 0, .ref 0, .ref 16]) (pm_q0_1 (Nat.le_of_ble_eq_true rfl)) rfl rfl ?_
  refine pm_R_op pm_M0 (pc' := 311) (st' := [.int 1, .ref 0, .ref 16]) (pm_q0_1 (Nat.le_of_ble_eq_true rfl)) rfl rfl ?_
  refine pm_R_iald pm_M0 (pc' := 312) (v := 0) (pm_q0_1 (Nat.le_of_ble_eq_true rfl)) (hh 0 (Nat.le_of_ble_eq_true rfl)) (Nat.le_of_ble_eq_true rfl) rfl hx1 rfl ?_
  refine pm_R_lo pm_M0 (pc' := 313) (pm_q0_1 (Nat.le_of_ble_eq_true rfl)) rfl rfl ?_
  refine pm_R_lo pm_M0 (pc' := 314) (pm_q0_1 (Nat.le_of_ble_eq_true rfl)) rfl rfl ?_
  refine pm_R_op pm_M0 (pc' := 315) (st' := [.int 2, .int 0, .ref 0, .int 0, .ref 16]) (pm_q0_1 (Nat.le_of_ble_eq_true rfl)) rfl rfl ?_
  refine pm_R_op pm_M0 (pc' := 316) (st' := [.int 2, .ref 0, .int 0, .ref 16]) (pm_q0_1 (Nat.le_of_ble_eq_true rfl)) rfl rfl ?_
  refine pm_R_iald pm_M0 (pc' := 317) (v := x2) (pm_q0_1 (Nat.le_of_ble_eq_true rfl)) (hh 0 (Nat.le_of_ble_eq_true rfl)) (Nat.le_of_ble_eq_true rfl) rfl hx2 rfl ?_
  refine pm_R_cv pm_M0 (pc' := 320) (a := 16) (ra := [.int x2, .int 0]) (rest := []) (ls' := [.ref 16, .int 0, .int x2, pm_no, pm_no, pm_no, pm_no]) (pm_q0_1 (Nat.le_of_ble_eq_true rfl)) rfl (Or.inl rfl) pm_M10 (hh 16 (Nat.le_of_ble_eq_true rfl)) rfl (Nat.le_of_ble_eq_true rfl) (Nat.le_of_ble_eq_true rfl) rfl rfl (Nat.le_of_ble_eq_true rfl) rfl rfl ?_
  refine pm_R_lo pm_M10 (pc' := 1) rfl rfl rfl ?_
  refine pm_R_get pm_M10 (pc' := 4) (v := .ref 17) rfl rfl (hh 16 (Nat.le_of_ble_eq_true rfl)) (Nat.le_of_ble_eq_true rfl) (Nat.le_of_ble_eq_true rfl) rfl rfl ?_
  refine pm_R_get pm_M10 (pc' := 7) (v := .int 0) rfl rfl (hh 17 (Nat.le_of_ble_eq_true rfl)) (Nat.le_of_ble_eq_true rfl) (Nat.le_of_ble_eq_true rfl) rfl rfl ?_
  refine pm_R_lo pm_M10 (pc' := 8) (ls' := [.ref 16, .int 0, .int x2, .int 0, pm_no, pm_no, pm_no]) (st' := []) rfl rfl rfl ?_
  refine pm_R_lo pm_M10 (pc' := 9) rfl rfl rfl ?_
  refine pm_R_get pm_M10 (pc' := 12) (v := .ref 17) rfl rfl (hh 16 (Nat.le_of_ble_eq_true rfl)) (Nat.le_of_ble_eq_true rfl) (Nat.le_of_ble_eq_true rfl) rfl rfl ?_
  refine pm_R_op pm_M10 (pc' := 13) (st' := [.int 0, .ref 17]) rfl rfl rfl ?_
  refine pm_R_put pm_M10 (pc' := 16) (fs' := [.ref 18, .int 0, .int 0, .int (-1), .ref 19, .ref 20, .ref 21, .ref 22, .ref 23]) rfl rfl rfl (hh 17 (Nat.le_of_ble_eq_true rfl)) (Nat.le_of_ble_eq_true rfl) (Nat.le_of_ble_eq_true rfl) (Nat.le_of_ble_eq_true rfl) rfl (Or.inl rfl) rfl rfl ?_
  refine pm_R_lo pm_M10 (pc' := 17) rfl rfl rfl ?_
  refine pm_R_get pm_M10 (pc' := 20) (v := .ref 17) rfl rfl (hh 16 (Nat.le_of_ble_eq_true rfl)) (Nat.le_of_ble_eq_true rfl) (Nat.le_of_ble_eq_true rfl) rfl rfl ?_
  refine pm_R_op pm_M10 (pc' := 21) (st' := [.int 0, .ref 17]) rfl rfl rfl ?_
  refine pm_R_put pm_M10 (pc' := 24) (fs' := [.ref 18, .int 0, .int 0, .int (-1), .ref 19, .ref 20, .ref 21, .ref 22, .ref 23]) rfl rfl rfl rfl (Nat.le_of_ble_eq_true rfl) (Nat.le_of_ble_eq_true rfl) (Nat.le_of_ble_eq_true rfl) rfl (Or.inl rfl) rfl rfl ?_
  refine pm_R_lo pm_M10 (pc' := 25) rfl rfl rfl ?_
  refine pm_R_get pm_M10 (pc' := 28) (v := .ref 17) rfl rfl (hh 16 (Nat.le_of_ble_eq_true rfl)) (Nat.le_of_ble_eq_true rfl) (Nat.le_of_ble_eq_true rfl) rfl rfl ?_
  refine pm_R_op pm_M10 (pc' := 29) (st' := [.int (-1), .ref 17]) rfl rfl rfl ?_
  refine pm_R_put pm_M10 (pc' := 32) (fs' := [.ref 18, .int 0, .int 0, .int (-1), .ref 19, .ref 20, .ref 21, .ref 22, .ref 23]) rfl rfl rfl rfl (Nat.le_of_ble_eq_true rfl) (Nat.le_of_ble_eq_true rfl) (Nat.le_of_ble_eq_true rfl) rfl (Or.inl rfl) rfl rfl ?_
  refine pm_R_lo pm_M10 (pc' := 33) rfl rfl rfl ?_
  refine pm_R_br pm_M10 (pc' := 36) (st' := []) rfl rfl ?_
  refine pm_R_lo pm_M10 (pc' := 37) rfl rfl rfl ?_
  refine pm_R_op pm_M10 (pc' := 38) (st' := [.int 4, .int 0]) rfl rfl rfl ?_
  refine pm_R_br pm_M10 (pc' := 44) (st' := []) rfl rfl ?_
  refine pm_R_lo pm_M10 (pc' := 45) rfl rfl rfl ?_
  refine pm_R_get pm_M10 (pc' := 48) (v := .ref 17) rfl rfl (hh 16 (Nat.le_of_ble_eq_true rfl)) (Nat.le_of_ble_eq_true rfl) (Nat.le_of_ble_eq_true rfl) rfl rfl ?_
  refine pm_R_get pm_M10 (pc' := 51) (v := .ref 23) rfl rfl rfl (Nat.le_of_ble_eq_true rfl) (Nat.le_of_ble_eq_true rfl) rfl rfl ?_
  refine pm_R_lo pm_M10 (pc' := 52) rfl rfl rfl ?_
  refine pm_R_iald pm_M10 (pc' := 53) (v := 0) rfl (hh 23 (Nat.le_of_ble_eq_true rfl)) (Nat.le_of_ble_eq_true rfl) rfl rfl rfl ?_
  refine pm_R_lo pm_M10 (pc' := 55) (ls' := [.ref 16, .int 0, .int x2, .int 0, .int 0, pm_no, pm_no]) (st' := []) rfl rfl rfl ?_
  refine pm_R_lo pm_M10 (pc' := 56) rfl rfl rfl ?_
  refine pm_R_op pm_M10 (pc' := 57) (st' := [.int (-1), .int x2]) rfl rfl rfl ?_
  refine pm_R_icmp pm_M10 (t := 64) (pc' := 60) rfl rfl rfl (fun c_1 => ?_) (fun c_1 => ?_)
  · refine pm_R_op pm_M10 (pc' := 65) (st' := [.int 0]) rfl rfl rfl ?_
    refine pm_R_lo pm_M10 (pc' := 67) (ls' := [.ref 16, .int 0, .int x2, .int 0, .int 0, .int 0, pm_no]) (st' := []) rfl rfl rfl ?_
    refine pm_R_lo pm_M10 (pc' := 69) rfl rfl rfl ?_
    refine pm_R_br pm_M10 (pc' := 85) (st' := []) rfl rfl ?_
    refine pm_R_lo pm_M10 (pc' := 86) rfl rfl rfl ?_
    refine pm_R_ifc pm_M10 (t := 95) (pc' := 89) rfl rfl rfl (fun c_2 => ?_) (fun c_2 => ?_)
    · refine pm_R_op pm_M10 (pc' := 97) (st' := [.int (-2)]) rfl rfl rfl ?_
      refine pm_R_ret pm_M10 (r := some (.int (-2))) rfl rfl ?_
      show pm_R _ 0 320 [.ref 0, .ref 16, .ref 41, .int 0] [.int (-2)] _ _
      refine pm_R_lo pm_M0 (pc' := 321) (pm_q0_1 (Nat.le_of_ble_eq_true rfl)) rfl rfl ?_
      refine pm_R_lo pm_M0 (pc' := 322) (pm_q0_1 (Nat.le_of_ble_eq_true rfl)) rfl rfl ?_
      refine pm_R_lo pm_M0 (pc' := 323) (pm_q0_1 (Nat.le_of_ble_eq_true rfl)) rfl rfl ?_
      refine pm_R_op pm_M0 (pc' := 324) (st' := [.int 1, .int 0, .ref 0, .ref 41, .int (-2)]) (pm_q0_1 (Nat.le_of_ble_eq_true rfl)) rfl rfl ?_
      refine pm_R_op pm_M0 (pc' := 325) (st' := [.int 1, .ref 0, .ref 41, .int (-2)]) (pm_q0_1 (Nat.le_of_ble_eq_true rfl)) rfl rfl ?_
      refine pm_R_iald pm_M0 (pc' := 326) (v := 0) (pm_q0_1 (Nat.le_of_ble_eq_true rfl)) (hh 0 (Nat.le_of_ble_eq_true rfl)) (Nat.le_of_ble_eq_true rfl) rfl hx1 rfl ?_
      refine pm_R_lo pm_M0 (pc' := 327) (pm_q0_1 (Nat.le_of_ble_eq_true rfl)) rfl rfl ?_
      refine pm_R_lo pm_M0 (pc' := 328) (pm_q0_1 (Nat.le_of_ble_eq_true rfl)) rfl rfl ?_
      refine pm_R_op pm_M0 (pc' := 329) (st' := [.int 2, .int 0, .ref 0, .int 0, .ref 41, .int (-2)]) (pm_q0_1 (Nat.le_of_ble_eq_true rfl)) rfl rfl ?_
      refine pm_R_op pm_M0 (pc' := 330) (st' := [.int 2, .ref 0, .int 0, .ref 41, .int (-2)]) (pm_q0_1 (Nat.le_of_ble_eq_true rfl)) rfl rfl ?_
      refine pm_R_iald pm_M0 (pc' := 331) (v := x2) (pm_q0_1 (Nat.le_of_ble_eq_true rfl)) (hh 0 (Nat.le_of_ble_eq_true rfl)) (Nat.le_of_ble_eq_true rfl) rfl hx2 rfl ?_
      refine pm_R_cv pm_M0 (pc' := 334) (a := 41) (ra := [.int x2, .int 0]) (rest := [.int (-2)]) (ls' := [.ref 41, .int 0, .int x2, pm_no]) (pm_q0_1 (Nat.le_of_ble_eq_true rfl)) rfl (Or.inl rfl) pm_M175 (hh 41 (Nat.le_of_ble_eq_true rfl)) rfl (Nat.le_of_ble_eq_true rfl) (Nat.le_of_ble_eq_true rfl) rfl rfl (Nat.le_of_ble_eq_true rfl) rfl rfl ?_
      refine pm_R_lo pm_M175 (pc' := 1) rfl rfl rfl ?_
      refine pm_R_op pm_M175 (pc' := 2) (st' := [.int 0, .ref 41]) rfl rfl rfl ?_
      refine pm_R_put pm_M175 (pc' := 5) (fs' := [.int 0, .ref 42, .ref 43, .ref 44, .ref 45, .ref 46, .ref 47, .ref 48, .ref 49, .ref 50, .int 0, .int 0, .int 0, .int 0, .int 0, .long 0, .int 0, .int 0, .int 0, .ref 51, .ref 52, .int 0, .int 0, .int 0, .int 0, .ref 53, .int 0, .int 0, .ref 54, .ref 55, .ref 56, .int 0, .ref 57, .ref 58, .ref 59, .ref 60, .ref 61, .ref 62, .ref 63, .ref 64, .ref 65, .ref 66, .int 0, .int 0, .int 0, .ref 67, .ref 68, .int 0, .ref 69, .int 0, .int 0, .ref 70, .ref 71]) rfl rfl rfl (hh 41 (Nat.le_of_ble_eq_true rfl)) (Nat.le_of_ble_eq_true rfl) (Nat.le_of_ble_eq_true rfl) (Nat.le_of_ble_eq_true rfl) rfl (Or.inl rfl) rfl rfl ?_
      refine pm_R_lo pm_M175 (pc' := 6) rfl rfl rfl ?_
      refine pm_R_lo pm_M175 (pc' := 7) rfl rfl rfl ?_
      refine pm_R_get pm_M175 (pc' := 10) (v := .ref 43) rfl rfl rfl (Nat.le_of_ble_eq_true rfl) (Nat.le_of_ble_eq_true rfl) rfl rfl ?_
      refine pm_R_op pm_M175 (pc' := 11) (st' := [.int 0, .ref 43, .ref 41]) rfl rfl rfl ?_
      refine pm_R_iald pm_M175 (pc' := 12) (v := 0) rfl (hh 43 (Nat.le_of_ble_eq_true rfl)) (Nat.le_of_ble_eq_true rfl) rfl rfl rfl ?_
      refine pm_R_put pm_M175 (pc' := 15) (fs' := [.int 0, .ref 42, .ref 43, .ref 44, .ref 45, .ref 46, .ref 47, .ref 48, .ref 49, .ref 50, .int 0, .int 0, .int 0, .int 0, .int 0, .long 0, .int 0, .int 0, .int 0, .ref 51, .ref 52, .int 0, .int 0, .int 0, .int 0, .ref 53, .int 0, .int 0, .ref 54, .ref 55, .ref 56, .int 0, .ref 57, .ref 58, .ref 59, .ref 60, .ref 61, .ref 62, .ref 63, .ref 64, .ref 65, .ref 66, .int 0, .int 0, .int 0, .ref 67, .ref 68, .int 0, .ref 69, .int 0, .int 0, .ref 70, .ref 71]) rfl rfl rfl rfl (Nat.le_of_ble_eq_true rfl) (Nat.le_of_ble_eq_true rfl) (Nat.le_of_ble_eq_true rfl) rfl (Or.inl rfl) rfl rfl ?_
      refine pm_R_lo pm_M175 (pc' := 16) rfl rfl rfl ?_
      refine pm_R_get pm_M175 (pc' := 19) (v := .ref 43) rfl rfl rfl (Nat.le_of_ble_eq_true rfl) (Nat.le_of_ble_eq_true rfl) rfl rfl ?_
      refine pm_R_op pm_M175 (pc' := 20) (st' := [.int 0, .ref 43]) rfl rfl rfl ?_
      refine pm_R_op pm_M175 (pc' := 21) (st' := [.int 0, .int 0, .ref 43]) rfl rfl rfl ?_
      refine pm_R_iast pm_M175 (pc' := 22) rfl (hh 43 (Nat.le_of_ble_eq_true rfl)) (Nat.le_of_ble_eq_true rfl) (Nat.le_of_ble_eq_true rfl) rfl rfl ?_
      refine pm_R_lo pm_M175 (pc' := 23) rfl rfl rfl ?_
      refine pm_R_get pm_M175 (pc' := 26) (v := .ref 44) rfl rfl rfl (Nat.le_of_ble_eq_true rfl) (Nat.le_of_ble_eq_true rfl) rfl rfl ?_
      refine pm_R_op pm_M175 (pc' := 27) (st' := [.int 0, .ref 44]) rfl rfl rfl ?_
      refine pm_R_op pm_M175 (pc' := 28) (st' := [.int 0, .int 0, .ref 44]) rfl rfl rfl ?_
      refine pm_R_iast pm_M175 (pc' := 29) rfl (hh 44 (Nat.le_of_ble_eq_true rfl)) (Nat.le_of_ble_eq_true rfl) (Nat.le_of_ble_eq_true rfl) rfl rfl ?_
      refine pm_R_lo pm_M175 (pc' := 30) rfl rfl rfl ?_
      refine pm_R_get pm_M175 (pc' := 33) (v := .ref 45) rfl rfl rfl (Nat.le_of_ble_eq_true rfl) (Nat.le_of_ble_eq_true rfl) rfl rfl ?_
      refine pm_R_op pm_M175 (pc' := 34) (st' := [.int 0, .ref 45]) rfl rfl rfl ?_
      refine pm_R_op pm_M175 (pc' := 35) (st' := [.int (-1), .int 0, .ref 45]) rfl rfl rfl ?_
      refine pm_R_iast pm_M175 (pc' := 36) rfl (hh 45 (Nat.le_of_ble_eq_true rfl)) (Nat.le_of_ble_eq_true rfl) (Nat.le_of_ble_eq_true rfl) rfl rfl ?_
      refine pm_R_lo pm_M175 (pc' := 37) rfl rfl rfl ?_
      refine pm_R_op pm_M175 (pc' := 38) (st' := [.int 0, .int 0]) rfl rfl rfl ?_
      refine pm_R_op pm_M175 (pc' := 39) (st' := [.int 3, .int 0, .int 0]) rfl rfl rfl ?_
      refine pm_R_cs pm_M175 (pc' := 42) (ra := [.int 3, .int 0, .int 0]) (rest := []) (ls' := [.int 0, .int 0, .int 3]) rfl rfl (Or.inl rfl) pm_M174 rfl rfl (Nat.le_of_ble_eq_true rfl) rfl rfl ?_
      refine pm_R_lo pm_M174 (pc' := 1) rfl rfl rfl ?_
      refine pm_R_lo pm_M174 (pc' := 2) rfl rfl rfl ?_
      refine pm_R_br pm_M174 (pc' := 5) (st' := []) rfl rfl ?_
      refine pm_R_lo pm_M174 (pc' := 6) rfl rfl rfl ?_
      refine pm_R_lo pm_M174 (pc' := 7) rfl rfl rfl ?_
      refine pm_R_br pm_M174 (pc' := 10) (st' := []) rfl rfl ?_
      refine pm_R_op pm_M174 (pc' := 11) (st' := [.int 1]) rfl rfl rfl ?_
      refine pm_R_br pm_M174 (pc' := 15) rfl rfl ?_
      refine pm_R_ret pm_M174 (r := some (.int 1)) rfl rfl ?_
      show pm_R _ 175 42 [.ref 41, .int 0, .int x2, pm_no] [.int 1] _ _
      refine pm_R_br pm_M175 (pc' := 45) (st' := []) rfl rfl ?_
      refine pm_R_lo pm_M175 (pc' := 46) rfl rfl rfl ?_
      refine pm_R_op pm_M175 (pc' := 47) (st' := [.int (-1), .int x2]) rfl rfl rfl ?_
      refine pm_R_icmp pm_M175 (t := 66) (pc' := 50) rfl rfl rfl (fun c_3 => ?_) (fun c_3 => by exact absurd c_1 c_3)
      refine pm_R_lo pm_M175 (pc' := 67) rfl rfl rfl ?_
      refine pm_R_lo pm_M175 (pc' := 68) rfl rfl rfl ?_
      refine pm_R_lo pm_M175 (pc' := 69) rfl rfl rfl ?_
      refine pm_R_cv pm_M175 (pc' := 72) (a := 41) (ra := [.int x2, .int 0]) (rest := []) (ls' := [.ref 41, .int 0, .int x2]) rfl rfl (Or.inl rfl) pm_M177 rfl rfl (Nat.le_of_ble_eq_true rfl) (Nat.le_of_ble_eq_true rfl) rfl rfl (Nat.le_of_ble_eq_true rfl) rfl rfl ?_
      refine pm_R_lo pm_M177 (pc' := 1) rfl rfl rfl ?_
      refine pm_R_op pm_M177 (pc' := 2) (st' := [.int 0, .int x2]) rfl rfl rfl ?_
      refine pm_R_lo pm_M177 (pc' := 3) rfl rfl rfl ?_
      refine pm_R_get pm_M177 (pc' := 6) (v := .ref 46) rfl rfl rfl (Nat.le_of_ble_eq_true rfl) (Nat.le_of_ble_eq_true rfl) rfl rfl ?_
      refine pm_R_lo pm_M177 (pc' := 7) rfl rfl rfl ?_
      refine pm_R_iald pm_M177 (pc' := 8) (v := 0) rfl (hh 46 (Nat.le_of_ble_eq_true rfl)) (Nat.le_of_ble_eq_true rfl) rfl rfl rfl ?_
      refine pm_R_op pm_M177 (pc' := 9) (st' := [.int 1, .int 0, .int 0, .int x2]) rfl rfl rfl ?_
      refine pm_R_op pm_M177 (pc' := 10) (st' := [.int (-1), .int 0, .int x2]) rfl rfl rfl ?_
      refine pm_R_cs pm_M177 (pc' := 13) (ra := [.int (-1), .int 0, .int x2]) (rest := []) (ls' := [.int x2, .int 0, .int (-1)]) rfl rfl (Or.inl rfl) pm_M174 rfl rfl (Nat.le_of_ble_eq_true rfl) rfl rfl ?_
      refine pm_R_lo pm_M174 (pc' := 1) rfl rfl rfl ?_
      refine pm_R_lo pm_M174 (pc' := 2) rfl rfl rfl ?_
      refine pm_R_icmp pm_M174 (t := 14) (pc' := 5) rfl rfl rfl (fun c_4 => ?_) (fun c_4 => by exact absurd c_2 c_4)
      refine pm_R_op pm_M174 (pc' := 15) (st' := [.int 0]) rfl rfl rfl ?_
      refine pm_R_ret pm_M174 (r := some (.int 0)) rfl rfl ?_
      show pm_R _ 177 13 [.ref 41, .int 0, .int x2] [.int 0] _ _
      refine pm_R_ret pm_M177 (r := some (.int 0)) rfl rfl ?_
      show pm_R _ 175 72 [.ref 41, .int 0, .int x2, pm_no] [.int 0] _ _
      refine pm_R_br pm_M175 (pc' := 75) (st' := []) rfl rfl ?_
      refine pm_R_op pm_M175 (pc' := 77) (st' := [.int (-2)]) rfl rfl rfl ?_
      refine pm_R_ret pm_M175 (r := some (.int (-2))) rfl rfl ?_
      show pm_R _ 0 334 [.ref 0, .ref 16, .ref 41, .int 0] [.int (-2), .int (-2)] _ _
      refine pm_R_br pm_M0 (pc' := 2121) (st' := []) (pm_q0_2 (Nat.le_of_ble_eq_true rfl)) rfl ?_
      exact p1_tail (hh 0 (Nat.le_of_ble_eq_true rfl)) (Nat.le_of_ble_eq_true rfl) (Nat.le_of_ble_eq_true rfl) (Nat.le_of_ble_eq_true rfl)
    · refine pm_R_lo pm_M10 (pc' := 90) rfl rfl rfl ?_
      refine pm_R_lo pm_M10 (pc' := 92) rfl rfl rfl ?_
      refine pm_R_icmp pm_M10 (t := 98) (pc' := 95) rfl rfl rfl (fun c_5 => by exact absurd c_5 c_2) (fun c_5 => ?_)
      refine pm_R_op pm_M10 (pc' := 97) (st' := [.int (-2)]) rfl rfl rfl ?_
      refine pm_R_ret pm_M10 (r := some (.int (-2))) rfl rfl ?_
      show pm_R _ 0 320 [.ref 0, .ref 16, .ref 41, .int 0] [.int (-2)] _ _
      refine pm_R_lo pm_M0 (pc' := 321) (pm_q0_1 (Nat.le_of_ble_eq_true rfl)) rfl rfl ?_
      refine pm_R_lo pm_M0 (pc' := 322) (pm_q0_1 (Nat.le_of_ble_eq_true rfl)) rfl rfl ?_
      refine pm_R_lo pm_M0 (pc' := 323) (pm_q0_1 (Nat.le_of_ble_eq_true rfl)) rfl rfl ?_
      refine pm_R_op pm_M0 (pc' := 324) (st' := [.int 1, .int 0, .ref 0, .ref 41, .int (-2)]) (pm_q0_1 (Nat.le_of_ble_eq_true rfl)) rfl rfl ?_
      refine pm_R_op pm_M0 (pc' := 325) (st' := [.int 1, .ref 0, .ref 41, .int (-2)]) (pm_q0_1 (Nat.le_of_ble_eq_true rfl)) rfl rfl ?_
      refine pm_R_iald pm_M0 (pc' := 326) (v := 0) (pm_q0_1 (Nat.le_of_ble_eq_true rfl)) (hh 0 (Nat.le_of_ble_eq_true rfl)) (Nat.le_of_ble_eq_true rfl) rfl hx1 rfl ?_
      refine pm_R_lo pm_M0 (pc' := 327) (pm_q0_1 (Nat.le_of_ble_eq_true rfl)) rfl rfl ?_
      refine pm_R_lo pm_M0 (pc' := 328) (pm_q0_1 (Nat.le_of_ble_eq_true rfl)) rfl rfl ?_
      refine pm_R_op pm_M0 (pc' := 329) (st' := [.int 2, .int 0, .ref 0, .int 0, .ref 41, .int (-2)]) (pm_q0_1 (Nat.le_of_ble_eq_true rfl)) rfl rfl ?_
      refine pm_R_op pm_M0 (pc' := 330) (st' := [.int 2, .ref 0, .int 0, .ref 41, .int (-2)]) (pm_q0_1 (Nat.le_of_ble_eq_true rfl)) rfl rfl ?_
      refine pm_R_iald pm_M0 (pc' := 331) (v := x2) (pm_q0_1 (Nat.le_of_ble_eq_true rfl)) (hh 0 (Nat.le_of_ble_eq_true rfl)) (Nat.le_of_ble_eq_true rfl) rfl hx2 rfl ?_
      refine pm_R_cv pm_M0 (pc' := 334) (a := 41) (ra := [.int x2, .int 0]) (rest := [.int (-2)]) (ls' := [.ref 41, .int 0, .int x2, pm_no]) (pm_q0_1 (Nat.le_of_ble_eq_true rfl)) rfl (Or.inl rfl) pm_M175 (hh 41 (Nat.le_of_ble_eq_true rfl)) rfl (Nat.le_of_ble_eq_true rfl) (Nat.le_of_ble_eq_true rfl) rfl rfl (Nat.le_of_ble_eq_true rfl) rfl rfl ?_
      refine pm_R_lo pm_M175 (pc' := 1) rfl rfl rfl ?_
      refine pm_R_op pm_M175 (pc' := 2) (st' := [.int 0, .ref 41]) rfl rfl rfl ?_
      refine pm_R_put pm_M175 (pc' := 5) (fs' := [.int 0, .ref 42, .ref 43, .ref 44, .ref 45, .ref 46, .ref 47, .ref 48, .ref 49, .ref 50, .int 0, .int 0, .int 0, .int 0, .int 0, .long 0, .int 0, .int 0, .int 0, .ref 51, .ref 52, .int 0, .int 0, .int 0, .int 0, .ref 53, .int 0, .int 0, .ref 54, .ref 55, .ref 56, .int 0, .ref 57, .ref 58, .ref 59, .ref 60, .ref 61, .ref 62, .ref 63, .ref 64, .ref 65, .ref 66, .int 0, .int 0, .int 0, .ref 67, .ref 68, .int 0, .ref 69, .int 0, .int 0, .ref 70, .ref 71]) rfl rfl rfl (hh 41 (Nat.le_of_ble_eq_true rfl)) (Nat.le_of_ble_eq_true rfl) (Nat.le_of_ble_eq_true rfl) (Nat.le_of_ble_eq_true rfl) rfl (Or.inl rfl) rfl rfl ?_
      refine pm_R_lo pm_M175 (pc' := 6) rfl rfl rfl ?_
      refine pm_R_lo pm_M175 (pc' := 7) rfl rfl rfl ?_
      refine pm_R_get pm_M175 (pc' := 10) (v := .ref 43) rfl rfl rfl (Nat.le_of_ble_eq_true rfl) (Nat.le_of_ble_eq_true rfl) rfl rfl ?_
      refine pm_R_op pm_M175 (pc' := 11) (st' := [.int 0, .ref 43, .ref 41]) rfl rfl rfl ?_
      refine pm_R_iald pm_M175 (pc' := 12) (v := 0) rfl (hh 43 (Nat.le_of_ble_eq_true rfl)) (Nat.le_of_ble_eq_true rfl) rfl rfl rfl ?_
      refine pm_R_put pm_M175 (pc' := 15) (fs' := [.int 0, .ref 42, .ref 43, .ref 44, .ref 45, .ref 46, .ref 47, .ref 48, .ref 49, .ref 50, .int 0, .int 0, .int 0, .int 0, .int 0, .long 0, .int 0, .int 0, .int 0, .ref 51, .ref 52, .int 0, .int 0, .int 0, .int 0, .ref 53, .int 0, .int 0, .ref 54, .ref 55, .ref 56, .int 0, .ref 57, .ref 58, .ref 59, .ref 60, .ref 61, .ref 62, .ref 63, .ref 64, .ref 65, .ref 66, .int 0, .int 0, .int 0, .ref 67, .ref 68, .int 0, .ref 69, .int 0, .int 0, .ref 70, .ref 71]) rfl rfl rfl rfl (Nat.le_of_ble_eq_true rfl) (Nat.le_of_ble_eq_true rfl) (Nat.le_of_ble_eq_true rfl) rfl (Or.inl rfl) rfl rfl ?_
      refine pm_R_lo pm_M175 (pc' := 16) rfl rfl rfl ?_
      refine pm_R_get pm_M175 (pc' := 19) (v := .ref 43) rfl rfl rfl (Nat.le_of_ble_eq_true rfl) (Nat.le_of_ble_eq_true rfl) rfl rfl ?_
      refine pm_R_op pm_M175 (pc' := 20) (st' := [.int 0, .ref 43]) rfl rfl rfl ?_
      refine pm_R_op pm_M175 (pc' := 21) (st' := [.int 0, .int 0, .ref 43]) rfl rfl rfl ?_
      refine pm_R_iast pm_M175 (pc' := 22) rfl (hh 43 (Nat.le_of_ble_eq_true rfl)) (Nat.le_of_ble_eq_true rfl) (Nat.le_of_ble_eq_true rfl) rfl rfl ?_
      refine pm_R_lo pm_M175 (pc' := 23) rfl rfl rfl ?_
      refine pm_R_get pm_M175 (pc' := 26) (v := .ref 44) rfl rfl rfl (Nat.le_of_ble_eq_true rfl) (Nat.le_of_ble_eq_true rfl) rfl rfl ?_
      refine pm_R_op pm_M175 (pc' := 27) (st' := [.int 0, .ref 44]) rfl rfl rfl ?_
      refine pm_R_op pm_M175 (pc' := 28) (st' := [.int 0, .int 0, .ref 44]) rfl rfl rfl ?_
      refine pm_R_iast pm_M175 (pc' := 29) rfl (hh 44 (Nat.le_of_ble_eq_true rfl)) (Nat.le_of_ble_eq_true rfl) (Nat.le_of_ble_eq_true rfl) rfl rfl ?_
      refine pm_R_lo pm_M175 (pc' := 30) rfl rfl rfl ?_
      refine pm_R_get pm_M175 (pc' := 33) (v := .ref 45) rfl rfl rfl (Nat.le_of_ble_eq_true rfl) (Nat.le_of_ble_eq_true rfl) rfl rfl ?_
      refine pm_R_op pm_M175 (pc' := 34) (st' := [.int 0, .ref 45]) rfl rfl rfl ?_
      refine pm_R_op pm_M175 (pc' := 35) (st' := [.int (-1), .int 0, .ref 45]) rfl rfl rfl ?_
      refine pm_R_iast pm_M175 (pc' := 36) rfl (hh 45 (Nat.le_of_ble_eq_true rfl)) (Nat.le_of_ble_eq_true rfl) (Nat.le_of_ble_eq_true rfl) rfl rfl ?_
      refine pm_R_lo pm_M175 (pc' := 37) rfl rfl rfl ?_
      refine pm_R_op pm_M175 (pc' := 38) (st' := [.int 0, .int 0]) rfl rfl rfl ?_
      refine pm_R_op pm_M175 (pc' := 39) (st' := [.int 3, .int 0, .int 0]) rfl rfl rfl ?_
      refine pm_R_cs pm_M175 (pc' := 42) (ra := [.int 3, .int 0, .int 0]) (rest := []) (ls' := [.int 0, .int 0, .int 3]) rfl rfl (Or.inl rfl) pm_M174 rfl rfl (Nat.le_of_ble_eq_true rfl) rfl rfl ?_
      refine pm_R_lo pm_M174 (pc' := 1) rfl rfl rfl ?_
      refine pm_R_lo pm_M174 (pc' := 2) rfl rfl rfl ?_
      refine pm_R_br pm_M174 (pc' := 5) (st' := []) rfl rfl ?_
      refine pm_R_lo pm_M174 (pc' := 6) rfl rfl rfl ?_
      refine pm_R_lo pm_M174 (pc' := 7) rfl rfl rfl ?_
      refine pm_R_br pm_M174 (pc' := 10) (st' := []) rfl rfl ?_
      refine pm_R_op pm_M174 (pc' := 11) (st' := [.int 1]) rfl rfl rfl ?_
      refine pm_R_br pm_M174 (pc' := 15) rfl rfl ?_
      refine pm_R_ret pm_M174 (r := some (.int 1)) rfl rfl ?_
      show pm_R _ 175 42 [.ref 41, .int 0, .int x2, pm_no] [.int 1] _ _
      refine pm_R_br pm_M175 (pc' := 45) (st' := []) rfl rfl ?_
      refine pm_R_lo pm_M175 (pc' := 46) rfl rfl rfl ?_
      refine pm_R_op pm_M175 (pc' := 47) (st' := [.int (-1), .int x2]) rfl rfl rfl ?_
      refine pm_R_icmp pm_M175 (t := 66) (pc' := 50) rfl rfl rfl (fun c_6 => ?_) (fun c_6 => by exact absurd c_1 c_6)
      refine pm_R_lo pm_M175 (pc' := 67) rfl rfl rfl ?_
      refine pm_R_lo pm_M175 (pc' := 68) rfl rfl rfl ?_
      refine pm_R_lo pm_M175 (pc' := 69) rfl rfl rfl ?_
      refine pm_R_cv pm_M175 (pc' := 72) (a := 41) (ra := [.int x2, .int 0]) (rest := []) (ls' := [.ref 41, .int 0, .int x2]) rfl rfl (Or.inl rfl) pm_M177 rfl rfl (Nat.le_of_ble_eq_true rfl) (Nat.le_of_ble_eq_true rfl) rfl rfl (Nat.le_of_ble_eq_true rfl) rfl rfl ?_
      refine pm_R_lo pm_M177 (pc' := 1) rfl rfl rfl ?_
      refine pm_R_op pm_M177 (pc' := 2) (st' := [.int 0, .int x2]) rfl rfl rfl ?_
      refine pm_R_lo pm_M177 (pc' := 3) rfl rfl rfl ?_
      refine pm_R_get pm_M177 (pc' := 6) (v := .ref 46) rfl rfl rfl (Nat.le_of_ble_eq_true rfl) (Nat.le_of_ble_eq_true rfl) rfl rfl ?_
      refine pm_R_lo pm_M177 (pc' := 7) rfl rfl rfl ?_
      refine pm_R_iald pm_M177 (pc' := 8) (v := 0) rfl (hh 46 (Nat.le_of_ble_eq_true rfl)) (Nat.le_of_ble_eq_true rfl) rfl rfl rfl ?_
      refine pm_R_op pm_M177 (pc' := 9) (st' := [.int 1, .int 0, .int 0, .int x2]) rfl rfl rfl ?_
      refine pm_R_op pm_M177 (pc' := 10) (st' := [.int (-1), .int 0, .int x2]) rfl rfl rfl ?_
      refine pm_R_cs pm_M177 (pc' := 13) (ra := [.int (-1), .int 0, .int x2]) (rest := []) (ls' := [.int x2, .int 0, .int (-1)]) rfl rfl (Or.inl rfl) pm_M174 rfl rfl (Nat.le_of_ble_eq_true rfl) rfl rfl ?_
      refine pm_R_lo pm_M174 (pc' := 1) rfl rfl rfl ?_
      refine pm_R_lo pm_M174 (pc' := 2) rfl rfl rfl ?_
      refine pm_R_icmp pm_M174 (t := 14) (pc' := 5) rfl rfl rfl (fun c_7 => by exact absurd c_7 c_2) (fun c_7 => ?_)
      refine pm_R_lo pm_M174 (pc' := 6) rfl rfl rfl ?_
      refine pm_R_lo pm_M174 (pc' := 7) rfl rfl rfl ?_
      refine pm_R_icmp pm_M174 (t := 14) (pc' := 10) rfl rfl rfl (fun c_8 => ?_) (fun c_8 => by have z0 : ((-1) : Int32).toInt = -1 := (by decide); have z1 : ((0) : Int32).toInt = 0 := (by decide); have q0 := (Int32.le_iff_toInt_le.mp (Int32.not_lt.mp c_2)); have q1 := (Int32.le_iff_toInt_le.mp (Int32.not_lt.mp c_8)); exfalso; omega)
      refine pm_R_op pm_M174 (pc' := 15) (st' := [.int 0]) rfl rfl rfl ?_
      refine pm_R_ret pm_M174 (r := some (.int 0)) rfl rfl ?_
      show pm_R _ 177 13 [.ref 41, .int 0, .int x2] [.int 0] _ _
      refine pm_R_ret pm_M177 (r := some (.int 0)) rfl rfl ?_
      show pm_R _ 175 72 [.ref 41, .int 0, .int x2, pm_no] [.int 0] _ _
      refine pm_R_br pm_M175 (pc' := 75) (st' := []) rfl rfl ?_
      refine pm_R_op pm_M175 (pc' := 77) (st' := [.int (-2)]) rfl rfl rfl ?_
      refine pm_R_ret pm_M175 (r := some (.int (-2))) rfl rfl ?_
      show pm_R _ 0 334 [.ref 0, .ref 16, .ref 41, .int 0] [.int (-2), .int (-2)] _ _
      refine pm_R_br pm_M0 (pc' := 2121) (st' := []) (pm_q0_2 (Nat.le_of_ble_eq_true rfl)) rfl ?_
      exact p1_tail (hh 0 (Nat.le_of_ble_eq_true rfl)) (Nat.le_of_ble_eq_true rfl) (Nat.le_of_ble_eq_true rfl) (Nat.le_of_ble_eq_true rfl)
  · have c_1 : x2 = (-1) := Classical.not_not.mp c_1
    subst c_1
    show pm_R _ 10 60 [.ref 16, .int 0, .int (-1), .int 0, .int 0, pm_no, pm_no] [] _ _
    refine pm_R_op pm_M10 (pc' := 61) (st' := [.int 1]) rfl rfl rfl ?_
    refine pm_R_br pm_M10 (pc' := 65) rfl rfl ?_
    refine pm_R_lo pm_M10 (pc' := 67) (ls' := [.ref 16, .int 0, .int (-1), .int 0, .int 0, .int 1, pm_no]) (st' := []) rfl rfl rfl ?_
    refine pm_R_lo pm_M10 (pc' := 69) rfl rfl rfl ?_
    refine pm_R_br pm_M10 (pc' := 72) (st' := []) rfl rfl ?_
    refine pm_R_lo pm_M10 (pc' := 74) rfl rfl rfl ?_
    refine pm_R_stat pm_M10 (pc' := 77) rfl rfl rfl ?_
    refine pm_R_lo pm_M10 (pc' := 78) rfl rfl rfl ?_
    refine pm_R_iald pm_M10 (pc' := 79) (v := 2) rfl (hh 1 (Nat.le_of_ble_eq_true rfl)) (Nat.le_of_ble_eq_true rfl) rfl rfl rfl ?_
    refine pm_R_br pm_M10 (pc' := 98) (st' := []) rfl rfl ?_
    refine pm_R_lo pm_M10 (pc' := 100) rfl rfl rfl ?_
    refine pm_R_br pm_M10 (pc' := 103) (st' := []) rfl rfl ?_
    refine pm_R_lo pm_M10 (pc' := 105) rfl rfl rfl ?_
    refine pm_R_br pm_M10 (pc' := 109) rfl rfl ?_
    refine pm_R_lo pm_M10 (pc' := 111) (ls' := [.ref 16, .int 0, .int (-1), .int 0, .int 0, .int 1, .int 0]) (st' := []) rfl rfl rfl ?_
    refine pm_R_lo pm_M10 (pc' := 112) rfl rfl rfl ?_
    refine pm_R_get pm_M10 (pc' := 115) (v := .ref 25) rfl rfl (hh 16 (Nat.le_of_ble_eq_true rfl)) (Nat.le_of_ble_eq_true rfl) (Nat.le_of_ble_eq_true rfl) rfl rfl ?_
    refine pm_R_lo pm_M10 (pc' := 116) rfl rfl rfl ?_
    refine pm_R_lo pm_M10 (pc' := 117) (pm_q10_1 (Nat.le_of_ble_eq_true rfl)) rfl rfl ?_
    refine pm_R_cv pm_M10 (pc' := 120) (a := 25) (ra := [.int 0, .int 0]) (rest := []) (ls' := [.ref 25, .int 0, .int 0, pm_no]) (pm_q10_1 (Nat.le_of_ble_eq_true rfl)) rfl (Or.inl rfl) pm_M11 (hh 25 (Nat.le_of_ble_eq_true rfl)) rfl (Nat.le_of_ble_eq_true rfl) (Nat.le_of_ble_eq_true rfl) rfl rfl (Nat.le_of_ble_eq_true rfl) rfl rfl ?_
    refine pm_R_lo pm_M11 (pc' := 1) rfl rfl rfl ?_
    refine pm_R_cv pm_M11 (pc' := 4) (a := 25) (ra := []) (rest := []) (ls' := [.ref 25]) rfl rfl (Or.inl rfl) pm_M12 (hh 25 (Nat.le_of_ble_eq_true rfl)) rfl (Nat.le_of_ble_eq_true rfl) (Nat.le_of_ble_eq_true rfl) rfl rfl (Nat.le_of_ble_eq_true rfl) rfl rfl ?_
    refine pm_R_lo pm_M12 (pc' := 1) rfl rfl rfl ?_
    refine pm_R_op pm_M12 (pc' := 2) (st' := [.int 0, .ref 25]) rfl rfl rfl ?_
    refine pm_R_put pm_M12 (pc' := 5) (fs' := [.ref 30, .int 0, .int (-1), .ref 26, .int 0, .ref 27, .int 0, .ref 28, .int 4, .int (-1), .ref 29]) rfl rfl rfl (hh 25 (Nat.le_of_ble_eq_true rfl)) (Nat.le_of_ble_eq_true rfl) (Nat.le_of_ble_eq_true rfl) (Nat.le_of_ble_eq_true rfl) rfl (Or.inl rfl) rfl rfl ?_
    refine pm_R_lo pm_M12 (pc' := 6) rfl rfl rfl ?_
    refine pm_R_op pm_M12 (pc' := 7) (st' := [.int (-1), .ref 25]) rfl rfl rfl ?_
    refine pm_R_put pm_M12 (pc' := 10) (fs' := [.ref 30, .int 0, .int (-1), .ref 26, .int 0, .ref 27, .int 0, .ref 28, .int 4, .int (-1), .ref 29]) rfl rfl rfl rfl (Nat.le_of_ble_eq_true rfl) (Nat.le_of_ble_eq_true rfl) (Nat.le_of_ble_eq_true rfl) rfl (Or.inl rfl) rfl rfl ?_
    refine pm_R_lo pm_M12 (pc' := 11) rfl rfl rfl ?_
    refine pm_R_op pm_M12 (pc' := 12) (st' := [.int 0, .ref 25]) rfl rfl rfl ?_
    refine pm_R_put pm_M12 (pc' := 15) (fs' := [.ref 30, .int 0, .int (-1), .ref 26, .int 0, .ref 27, .int 0, .ref 28, .int 4, .int (-1), .ref 29]) rfl rfl rfl rfl (Nat.le_of_ble_eq_true rfl) (Nat.le_of_ble_eq_true rfl) (Nat.le_of_ble_eq_true rfl) rfl (Or.inl rfl) rfl rfl ?_
    refine pm_R_lo pm_M12 (pc' := 16) rfl rfl rfl ?_
    refine pm_R_op pm_M12 (pc' := 17) (st' := [.int 0, .ref 25]) rfl rfl rfl ?_
    refine pm_R_put pm_M12 (pc' := 20) (fs' := [.ref 30, .int 0, .int (-1), .ref 26, .int 0, .ref 27, .int 0, .ref 28, .int 4, .int (-1), .ref 29]) rfl rfl rfl rfl (Nat.le_of_ble_eq_true rfl) (Nat.le_of_ble_eq_true rfl) (Nat.le_of_ble_eq_true rfl) rfl (Or.inl rfl) rfl rfl ?_
    refine pm_R_lo pm_M12 (pc' := 21) rfl rfl rfl ?_
    refine pm_R_get pm_M12 (pc' := 24) (v := .ref 28) rfl rfl rfl (Nat.le_of_ble_eq_true rfl) (Nat.le_of_ble_eq_true rfl) rfl rfl ?_
    refine pm_R_op pm_M12 (pc' := 25) (st' := [.int 0, .ref 28]) rfl rfl rfl ?_
    refine pm_R_cs pm_M12 (pc' := 28) (ra := [.int 0, .ref 28]) (rest := []) (ls' := [.ref 28, .int 0, pm_no, pm_no]) rfl rfl (Or.inl rfl) pm_M13 rfl rfl (Nat.le_of_ble_eq_true rfl) rfl rfl ?_
    refine pm_R_op pm_M13 (pc' := 1) (st' := [.int 0]) rfl rfl rfl ?_
    refine pm_R_lo pm_M13 (pc' := 2) (ls' := [.ref 28, .int 0, .int 0, pm_no]) (st' := []) rfl rfl rfl ?_
    refine pm_R_lo pm_M13 (pc' := 3) rfl rfl rfl ?_
    refine pm_R_alen pm_M13 (pc' := 4) (v := 10) rfl (hh 28 (Nat.le_of_ble_eq_true rfl)) (Nat.le_of_ble_eq_true rfl) (Nat.le_of_ble_eq_true rfl) (Nat.le_of_ble_eq_true rfl) rfl rfl ?_
    refine pm_R_lo pm_M13 (pc' := 5) (ls' := [.ref 28, .int 0, .int 0, .int 10]) (st' := []) rfl rfl rfl ?_
    refine pm_R_lo pm_M13 (pc' := 6) rfl rfl rfl ?_
    refine pm_R_lo pm_M13 (pc' := 7) rfl rfl rfl ?_
    refine pm_R_br pm_M13 (pc' := 10) (st' := []) rfl rfl ?_
    refine pm_R_lo pm_M13 (pc' := 11) rfl rfl rfl ?_
    refine pm_R_lo pm_M13 (pc' := 12) rfl rfl rfl ?_
    refine pm_R_lo pm_M13 (pc' := 13) rfl rfl rfl ?_
    refine pm_R_iast pm_M13 (pc' := 14) rfl (hh 28 (Nat.le_of_ble_eq_true rfl)) (Nat.le_of_ble_eq_true rfl) (Nat.le_of_ble_eq_true rfl) rfl rfl ?_
    refine pm_R_lo pm_M13 (pc' := 17) (ls' := [.ref 28, .int 0, .int 1, .int 10]) (st' := []) rfl rfl rfl ?_
    refine pm_R_br pm_M13 (pc' := 5) rfl rfl ?_
    refine pm_R_lo pm_M13 (pc' := 6) rfl rfl rfl ?_
    refine pm_R_lo pm_M13 (pc' := 7) rfl rfl rfl ?_
    refine pm_R_br pm_M13 (pc' := 10) (st' := []) rfl rfl ?_
    refine pm_R_lo pm_M13 (pc' := 11) rfl rfl rfl ?_
    refine pm_R_lo pm_M13 (pc' := 12) rfl rfl rfl ?_
    refine pm_R_lo pm_M13 (pc' := 13) rfl rfl rfl ?_
    refine pm_R_iast pm_M13 (pc' := 14) rfl rfl (Nat.le_of_ble_eq_true rfl) (Nat.le_of_ble_eq_true rfl) rfl rfl ?_
    refine pm_R_lo pm_M13 (pc' := 17) (ls' := [.ref 28, .int 0, .int 2, .int 10]) (st' := []) rfl rfl rfl ?_
    refine pm_R_br pm_M13 (pc' := 5) rfl rfl ?_
    refine pm_R_lo pm_M13 (pc' := 6) rfl rfl rfl ?_
    refine pm_R_lo pm_M13 (pc' := 7) rfl rfl rfl ?_
    refine pm_R_br pm_M13 (pc' := 10) (st' := []) rfl rfl ?_
    refine pm_R_lo pm_M13 (pc' := 11) rfl rfl rfl ?_
    refine pm_R_lo pm_M13 (pc' := 12) rfl rfl rfl ?_
    refine pm_R_lo pm_M13 (pc' := 13) rfl rfl rfl ?_
    refine pm_R_iast pm_M13 (pc' := 14) rfl rfl (Nat.le_of_ble_eq_true rfl) (Nat.le_of_ble_eq_true rfl) rfl rfl ?_
    refine pm_R_lo pm_M13 (pc' := 17) (ls' := [.ref 28, .int 0, .int 3, .int 10]) (st' := []) rfl rfl rfl ?_
    refine pm_R_br pm_M13 (pc' := 5) rfl rfl ?_
    refine pm_R_lo pm_M13 (pc' := 6) rfl rfl rfl ?_
    refine pm_R_lo pm_M13 (pc' := 7) rfl rfl rfl ?_
    refine pm_R_br pm_M13 (pc' := 10) (st' := []) rfl rfl ?_
    refine pm_R_lo pm_M13 (pc' := 11) rfl rfl rfl ?_
    refine pm_R_lo pm_M13 (pc' := 12) rfl rfl rfl ?_
    refine pm_R_lo pm_M13 (pc' := 13) rfl rfl rfl ?_
    refine pm_R_iast pm_M13 (pc' := 14) rfl rfl (Nat.le_of_ble_eq_true rfl) (Nat.le_of_ble_eq_true rfl) rfl rfl ?_
    refine pm_R_lo pm_M13 (pc' := 17) (ls' := [.ref 28, .int 0, .int 4, .int 10]) (st' := []) rfl rfl rfl ?_
    refine pm_R_br pm_M13 (pc' := 5) rfl rfl ?_
    refine pm_R_lo pm_M13 (pc' := 6) rfl rfl rfl ?_
    refine pm_R_lo pm_M13 (pc' := 7) rfl rfl rfl ?_
    refine pm_R_br pm_M13 (pc' := 10) (st' := []) rfl rfl ?_
    refine pm_R_lo pm_M13 (pc' := 11) rfl rfl rfl ?_
    refine pm_R_lo pm_M13 (pc' := 12) rfl rfl rfl ?_
    refine pm_R_lo pm_M13 (pc' := 13) rfl rfl rfl ?_
    refine pm_R_iast pm_M13 (pc' := 14) rfl rfl (Nat.le_of_ble_eq_true rfl) (Nat.le_of_ble_eq_true rfl) rfl rfl ?_
    refine pm_R_lo pm_M13 (pc' := 17) (ls' := [.ref 28, .int 0, .int 5, .int 10]) (st' := []) rfl rfl rfl ?_
    refine pm_R_br pm_M13 (pc' := 5) rfl rfl ?_
    refine pm_R_lo pm_M13 (pc' := 6) rfl rfl rfl ?_
    refine pm_R_lo pm_M13 (pc' := 7) rfl rfl rfl ?_
    refine pm_R_br pm_M13 (pc' := 10) (st' := []) rfl rfl ?_
    refine pm_R_lo pm_M13 (pc' := 11) rfl rfl rfl ?_
    refine pm_R_lo pm_M13 (pc' := 12) rfl rfl rfl ?_
    refine pm_R_lo pm_M13 (pc' := 13) rfl rfl rfl ?_
    refine pm_R_iast pm_M13 (pc' := 14) rfl rfl (Nat.le_of_ble_eq_true rfl) (Nat.le_of_ble_eq_true rfl) rfl rfl ?_
    refine pm_R_lo pm_M13 (pc' := 17) (ls' := [.ref 28, .int 0, .int 6, .int 10]) (st' := []) rfl rfl rfl ?_
    refine pm_R_br pm_M13 (pc' := 5) rfl rfl ?_
    refine pm_R_lo pm_M13 (pc' := 6) rfl rfl rfl ?_
    refine pm_R_lo pm_M13 (pc' := 7) rfl rfl rfl ?_
    refine pm_R_br pm_M13 (pc' := 10) (st' := []) rfl rfl ?_
    refine pm_R_lo pm_M13 (pc' := 11) rfl rfl rfl ?_
    refine pm_R_lo pm_M13 (pc' := 12) rfl rfl rfl ?_
    refine pm_R_lo pm_M13 (pc' := 13) rfl rfl rfl ?_
    refine pm_R_iast pm_M13 (pc' := 14) rfl rfl (Nat.le_of_ble_eq_true rfl) (Nat.le_of_ble_eq_true rfl) rfl rfl ?_
    refine pm_R_lo pm_M13 (pc' := 17) (ls' := [.ref 28, .int 0, .int 7, .int 10]) (st' := []) rfl rfl rfl ?_
    refine pm_R_br pm_M13 (pc' := 5) rfl rfl ?_
    refine pm_R_lo pm_M13 (pc' := 6) rfl rfl rfl ?_
    refine pm_R_lo pm_M13 (pc' := 7) rfl rfl rfl ?_
    refine pm_R_br pm_M13 (pc' := 10) (st' := []) rfl rfl ?_
    refine pm_R_lo pm_M13 (pc' := 11) rfl rfl rfl ?_
    refine pm_R_lo pm_M13 (pc' := 12) rfl rfl rfl ?_
    refine pm_R_lo pm_M13 (pc' := 13) rfl rfl rfl ?_
    refine pm_R_iast pm_M13 (pc' := 14) rfl rfl (Nat.le_of_ble_eq_true rfl) (Nat.le_of_ble_eq_true rfl) rfl rfl ?_
    refine pm_R_lo pm_M13 (pc' := 17) (ls' := [.ref 28, .int 0, .int 8, .int 10]) (st' := []) rfl rfl rfl ?_
    refine pm_R_br pm_M13 (pc' := 5) rfl rfl ?_
    refine pm_R_lo pm_M13 (pc' := 6) rfl rfl rfl ?_
    refine pm_R_lo pm_M13 (pc' := 7) rfl rfl rfl ?_
    refine pm_R_br pm_M13 (pc' := 10) (st' := []) rfl rfl ?_
    refine pm_R_lo pm_M13 (pc' := 11) rfl rfl rfl ?_
    refine pm_R_lo pm_M13 (pc' := 12) rfl rfl rfl ?_
    refine pm_R_lo pm_M13 (pc' := 13) rfl rfl rfl ?_
    refine pm_R_iast pm_M13 (pc' := 14) rfl rfl (Nat.le_of_ble_eq_true rfl) (Nat.le_of_ble_eq_true rfl) rfl rfl ?_
    refine pm_R_lo pm_M13 (pc' := 17) (ls' := [.ref 28, .int 0, .int 9, .int 10]) (st' := []) rfl rfl rfl ?_
    refine pm_R_br pm_M13 (pc' := 5) rfl rfl ?_
    refine pm_R_lo pm_M13 (pc' := 6) rfl rfl rfl ?_
    refine pm_R_lo pm_M13 (pc' := 7) rfl rfl rfl ?_
    refine pm_R_br pm_M13 (pc' := 10) (st' := []) rfl rfl ?_
    refine pm_R_lo pm_M13 (pc' := 11) rfl rfl rfl ?_
    refine pm_R_lo pm_M13 (pc' := 12) rfl rfl rfl ?_
    refine pm_R_lo pm_M13 (pc' := 13) rfl rfl rfl ?_
    refine pm_R_iast pm_M13 (pc' := 14) rfl rfl (Nat.le_of_ble_eq_true rfl) (Nat.le_of_ble_eq_true rfl) rfl rfl ?_
    refine pm_R_lo pm_M13 (pc' := 17) (ls' := [.ref 28, .int 0, .int 10, .int 10]) (st' := []) rfl rfl rfl ?_
    refine pm_R_br pm_M13 (pc' := 5) rfl rfl ?_
    refine pm_R_lo pm_M13 (pc' := 6) rfl rfl rfl ?_
    refine pm_R_lo pm_M13 (pc' := 7) rfl rfl rfl ?_
    refine pm_R_br pm_M13 (pc' := 20) (st' := []) rfl rfl ?_
    refine pm_R_ret pm_M13 (r := none) rfl rfl ?_
    show pm_R _ 12 28 [.ref 25] [] _ _
    refine pm_R_lo pm_M12 (pc' := 29) rfl rfl rfl ?_
    refine pm_R_op pm_M12 (pc' := 30) (st' := [.int 4, .ref 25]) rfl rfl rfl ?_
    refine pm_R_put pm_M12 (pc' := 33) (fs' := [.ref 30, .int 0, .int (-1), .ref 26, .int 0, .ref 27, .int 0, .ref 28, .int 4, .int (-1), .ref 29]) rfl rfl rfl rfl (Nat.le_of_ble_eq_true rfl) (Nat.le_of_ble_eq_true rfl) (Nat.le_of_ble_eq_true rfl) rfl (Or.inl rfl) rfl rfl ?_
    refine pm_R_lo pm_M12 (pc' := 34) rfl rfl rfl ?_
    refine pm_R_op pm_M12 (pc' := 35) (st' := [.int (-1), .ref 25]) rfl rfl rfl ?_
    refine pm_R_put pm_M12 (pc' := 38) (fs' := [.ref 30, .int 0, .int (-1), .ref 26, .int 0, .ref 27, .int 0, .ref 28, .int 4, .int (-1), .ref 29]) rfl rfl rfl rfl (Nat.le_of_ble_eq_true rfl) (Nat.le_of_ble_eq_true rfl) (Nat.le_of_ble_eq_true rfl) rfl (Or.inl rfl) rfl rfl ?_
    refine pm_R_ret pm_M12 (r := none) rfl rfl ?_
    show pm_R _ 11 4 [.ref 25, .int 0, .int 0, pm_no] [] _ _
    refine pm_R_lo pm_M11 (pc' := 5) rfl rfl rfl ?_
    refine pm_R_get pm_M11 (pc' := 8) (v := .ref 30) rfl rfl rfl (Nat.le_of_ble_eq_true rfl) (Nat.le_of_ble_eq_true rfl) rfl rfl ?_
    refine pm_R_lo pm_M11 (pc' := 9) rfl rfl rfl ?_
    refine pm_R_cv pm_M11 (pc' := 12) (a := 30) (ra := [.int 0]) (rest := []) (ls' := [.ref 30, .int 0]) rfl rfl (Or.inl rfl) pm_M14 (hh 30 (Nat.le_of_ble_eq_true rfl)) rfl (Nat.le_of_ble_eq_true rfl) (Nat.le_of_ble_eq_true rfl) rfl rfl (Nat.le_of_ble_eq_true rfl) rfl rfl ?_
    refine pm_R_lo pm_M14 (pc' := 1) rfl rfl rfl ?_
    refine pm_R_lo pm_M14 (pc' := 2) rfl rfl rfl ?_
    refine pm_R_lo pm_M14 (pc' := 3) rfl rfl rfl ?_
    refine pm_R_get pm_M14 (pc' := 6) (v := .ref 18) rfl rfl (hh 30 (Nat.le_of_ble_eq_true rfl)) (Nat.le_of_ble_eq_true rfl) (Nat.le_of_ble_eq_true rfl) rfl rfl ?_
    refine pm_R_alen pm_M14 (pc' := 7) (v := 600) rfl (hh 18 (Nat.le_of_ble_eq_true rfl)) (Nat.le_of_ble_eq_true rfl) (Nat.le_of_ble_eq_true rfl) (Nat.le_of_ble_eq_true rfl) rfl rfl ?_
    refine pm_R_nat pm_M14 (pc' := 10) (st' := [.int 0, .ref 30]) rfl rfl rfl rfl rfl ?_
    refine pm_R_put pm_M14 (pc' := 13) (fs' := [.ref 18, .int 0, .int 0, .int 0, .int 0, .int 0]) rfl rfl rfl (hh 30 (Nat.le_of_ble_eq_true rfl)) (Nat.le_of_ble_eq_true rfl) (Nat.le_of_ble_eq_true rfl) (Nat.le_of_ble_eq_true rfl) rfl (Or.inl rfl) rfl rfl ?_
    refine pm_R_lo pm_M14 (pc' := 14) rfl rfl rfl ?_
    refine pm_R_op pm_M14 (pc' := 15) (st' := [.int 0, .ref 30]) rfl rfl rfl ?_
    refine pm_R_put pm_M14 (pc' := 18) (fs' := [.ref 18, .int 0, .int 0, .int 0, .int 0, .int 0]) rfl rfl rfl rfl (Nat.le_of_ble_eq_true rfl) (Nat.le_of_ble_eq_true rfl) (Nat.le_of_ble_eq_true rfl) rfl (Or.inl rfl) rfl rfl ?_
    refine pm_R_lo pm_M14 (pc' := 19) rfl rfl rfl ?_
    refine pm_R_op pm_M14 (pc' := 20) (st' := [.int 0, .ref 30]) rfl rfl rfl ?_
    refine pm_R_put pm_M14 (pc' := 23) (fs' := [.ref 18, .int 0, .int 0, .int 0, .int 0, .int 0]) rfl rfl rfl rfl (Nat.le_of_ble_eq_true rfl) (Nat.le_of_ble_eq_true rfl) (Nat.le_of_ble_eq_true rfl) rfl (Or.inl rfl) rfl rfl ?_
    refine pm_R_lo pm_M14 (pc' := 24) rfl rfl rfl ?_
    refine pm_R_op pm_M14 (pc' := 25) (st' := [.int 0, .ref 30]) rfl rfl rfl ?_
    refine pm_R_put pm_M14 (pc' := 28) (fs' := [.ref 18, .int 0, .int 0, .int 0, .int 0, .int 0]) rfl rfl rfl rfl (Nat.le_of_ble_eq_true rfl) (Nat.le_of_ble_eq_true rfl) (Nat.le_of_ble_eq_true rfl) rfl (Or.inl rfl) rfl rfl ?_
    refine pm_R_ret pm_M14 (r := none) rfl rfl ?_
    show pm_R _ 11 12 [.ref 25, .int 0, .int 0, pm_no] [] _ _
    refine pm_R_lo pm_M11 (pc' := 13) rfl rfl rfl ?_
    refine pm_R_op pm_M11 (pc' := 14) (st' := [.int 1, .int 0]) rfl rfl rfl ?_
    refine pm_R_br pm_M11 (pc' := 24) (st' := []) rfl rfl ?_
    refine pm_R_lo pm_M11 (pc' := 25) rfl rfl rfl ?_
    refine pm_R_lo pm_M11 (pc' := 26) rfl rfl rfl ?_
    refine pm_R_cv pm_M11 (pc' := 29) (a := 25) (ra := [.int 0]) (rest := []) (ls' := [.ref 25, .int 0, pm_no]) rfl rfl (Or.inl rfl) pm_M22 rfl rfl (Nat.le_of_ble_eq_true rfl) (Nat.le_of_ble_eq_true rfl) rfl rfl (Nat.le_of_ble_eq_true rfl) rfl rfl ?_
    refine pm_R_lo pm_M22 (pc' := 1) rfl rfl rfl ?_
    refine pm_R_get pm_M22 (pc' := 4) (v := .ref 30) rfl rfl rfl (Nat.le_of_ble_eq_true rfl) (Nat.le_of_ble_eq_true rfl) rfl rfl ?_
    refine pm_R_cv pm_M22 (pc' := 7) (a := 30) (ra := []) (rest := []) (ls' := [.ref 30]) rfl rfl (Or.inl rfl) pm_M16 rfl rfl (Nat.le_of_ble_eq_true rfl) (Nat.le_of_ble_eq_true rfl) rfl rfl (Nat.le_of_ble_eq_true rfl) rfl rfl ?_
    refine pm_R_lo pm_M16 (pc' := 1) rfl rfl rfl ?_
    refine pm_R_lo pm_M16 (pc' := 2) rfl rfl rfl ?_
    refine pm_R_get pm_M16 (pc' := 5) (v := .int 0) rfl rfl rfl (Nat.le_of_ble_eq_true rfl) (Nat.le_of_ble_eq_true rfl) rfl rfl ?_
    refine pm_R_put pm_M16 (pc' := 8) (fs' := [.ref 18, .int 0, .int 0, .int 0, .int 0, .int 0]) rfl rfl rfl rfl (Nat.le_of_ble_eq_true rfl) (Nat.le_of_ble_eq_true rfl) (Nat.le_of_ble_eq_true rfl) rfl (Or.inl rfl) rfl rfl ?_
    refine pm_R_lo pm_M16 (pc' := 9) rfl rfl rfl ?_
    refine pm_R_get pm_M16 (pc' := 12) (v := .int 0) rfl rfl rfl (Nat.le_of_ble_eq_true rfl) (Nat.le_of_ble_eq_true rfl) rfl rfl ?_
    refine pm_R_lo pm_M16 (pc' := 13) rfl rfl rfl ?_
    refine pm_R_get pm_M16 (pc' := 16) (v := .int 0) rfl rfl rfl (Nat.le_of_ble_eq_true rfl) (Nat.le_of_ble_eq_true rfl) rfl rfl ?_
    refine pm_R_br pm_M16 (pc' := 47) (st' := []) rfl rfl ?_
    refine pm_R_lo pm_M16 (pc' := 48) rfl rfl rfl ?_
    refine pm_R_lo pm_M16 (pc' := 49) rfl rfl rfl ?_
    refine pm_R_get pm_M16 (pc' := 52) (v := .int 0) rfl rfl rfl (Nat.le_of_ble_eq_true rfl) (Nat.le_of_ble_eq_true rfl) rfl rfl ?_
    refine pm_R_put pm_M16 (pc' := 55) (fs' := [.ref 18, .int 0, .int 0, .int 0, .int 0, .int 0]) rfl rfl rfl rfl (Nat.le_of_ble_eq_true rfl) (Nat.le_of_ble_eq_true rfl) (Nat.le_of_ble_eq_true rfl) rfl (Or.inl rfl) rfl rfl ?_
    refine pm_R_lo pm_M16 (pc' := 56) rfl rfl rfl ?_
    refine pm_R_get pm_M16 (pc' := 59) (v := .int 0) rfl rfl rfl (Nat.le_of_ble_eq_true rfl) (Nat.le_of_ble_eq_true rfl) rfl rfl ?_
    refine pm_R_lo pm_M16 (pc' := 60) rfl rfl rfl ?_
    refine pm_R_get pm_M16 (pc' := 63) (v := .int 0) rfl rfl rfl (Nat.le_of_ble_eq_true rfl) (Nat.le_of_ble_eq_true rfl) rfl rfl ?_
    refine pm_R_br pm_M16 (pc' := 66) (st' := []) rfl rfl ?_
    refine pm_R_lo pm_M16 (pc' := 67) rfl rfl rfl ?_
    refine pm_R_op pm_M16 (pc' := 68) (st' := [.int 0, .ref 30]) rfl rfl rfl ?_
    refine pm_R_put pm_M16 (pc' := 71) (fs' := [.ref 18, .int 0, .int 0, .int 0, .int 0, .int 0]) rfl rfl rfl rfl (Nat.le_of_ble_eq_true rfl) (Nat.le_of_ble_eq_true rfl) (Nat.le_of_ble_eq_true rfl) rfl (Or.inl rfl) rfl rfl ?_
    refine pm_R_br pm_M16 (pc' := 191) rfl rfl ?_
    refine pm_R_ret pm_M16 (r := none) (pm_q16_1 (Nat.le_of_ble_eq_true rfl)) rfl ?_
    show pm_R _ 22 7 [.ref 25, .int 0, pm_no] [] _ _
    refine pm_R_op pm_M22 (pc' := 8) (st' := [.int 0]) rfl rfl rfl ?_
    refine pm_R_lo pm_M22 (pc' := 9) (ls' := [.ref 25, .int 0, .int 0]) (st' := []) rfl rfl rfl ?_
    refine pm_R_lo pm_M22 (pc' := 10) rfl rfl rfl ?_
    refine pm_R_op pm_M22 (pc' := 13) (st' := [.int 600, .int 0]) rfl rfl rfl ?_
    refine pm_R_br pm_M22 (pc' := 16) (st' := []) rfl rfl ?_
    refine pm_R_lo pm_M22 (pc' := 17) rfl rfl rfl ?_
    refine pm_R_get pm_M22 (pc' := 20) (v := .ref 30) rfl rfl rfl (Nat.le_of_ble_eq_true rfl) (Nat.le_of_ble_eq_true rfl) rfl rfl ?_
    refine pm_R_get pm_M22 (pc' := 23) (v := .int 0) rfl rfl rfl (Nat.le_of_ble_eq_true rfl) (Nat.le_of_ble_eq_true rfl) rfl rfl ?_
    refine pm_R_br pm_M22 (pc' := 53) (st' := []) rfl rfl ?_
    refine pm_R_op pm_M22 (pc' := 54) (st' := [.int 1]) rfl rfl rfl ?_
    refine pm_R_ret pm_M22 (r := some (.int 1)) rfl rfl ?_
    show pm_R _ 11 29 [.ref 25, .int 0, .int 0, pm_no] [.int 1] _ _
    refine pm_R_lo pm_M11 (pc' := 30) (ls' := [.ref 25, .int 0, .int 0, .int 1]) (st' := []) rfl rfl rfl ?_
    refine pm_R_lo pm_M11 (pc' := 31) rfl rfl rfl ?_
    refine pm_R_br pm_M11 (pc' := 53) (st' := []) rfl rfl ?_
    refine pm_R_lo pm_M11 (pc' := 54) rfl rfl rfl ?_
    refine pm_R_op pm_M11 (pc' := 55) (st' := [.int 1, .int 0]) rfl rfl rfl ?_
    refine pm_R_br pm_M11 (pc' := 65) (st' := []) rfl rfl ?_
    refine pm_R_lo pm_M11 (pc' := 66) rfl rfl rfl ?_
    refine pm_R_op pm_M11 (pc' := 67) (st' := [.int 2, .int 0]) rfl rfl rfl ?_
    refine pm_R_br pm_M11 (pc' := 87) (st' := []) rfl rfl ?_
    refine pm_R_ret pm_M11 (r := none) rfl rfl ?_
    show pm_R _ 10 120 [.ref 16, .int 0, .int (-1), .int 0, .int 0, .int 1, .int 0] [] _ _
    refine pm_R_lo pm_M10 (pc' := 121) (pm_q10_1 (Nat.le_of_ble_eq_true rfl)) rfl rfl ?_
    refine pm_R_get pm_M10 (pc' := 124) (v := .ref 17) (pm_q10_1 (Nat.le_of_ble_eq_true rfl)) rfl (hh 16 (Nat.le_of_ble_eq_true rfl)) (Nat.le_of_ble_eq_true rfl) (Nat.le_of_ble_eq_true rfl) rfl rfl ?_
    refine pm_R_lo pm_M10 (pc' := 125) (pm_q10_1 (Nat.le_of_ble_eq_true rfl)) rfl rfl ?_
    refine pm_R_get pm_M10 (pc' := 128) (v := .ref 25) (pm_q10_1 (Nat.le_of_ble_eq_true rfl)) rfl (hh 16 (Nat.le_of_ble_eq_true rfl)) (Nat.le_of_ble_eq_true rfl) (Nat.le_of_ble_eq_true rfl) rfl rfl ?_
    refine pm_R_get pm_M10 (pc' := 131) (v := .int 0) (pm_q10_1 (Nat.le_of_ble_eq_true rfl)) rfl rfl (Nat.le_of_ble_eq_true rfl) (Nat.le_of_ble_eq_true rfl) rfl rfl ?_
    refine pm_R_put pm_M10 (pc' := 134) (fs' := [.ref 18, .int 0, .int 0, .int (-1), .ref 19, .ref 20, .ref 21, .ref 22, .ref 23]) (pm_q10_1 (Nat.le_of_ble_eq_true rfl)) rfl rfl rfl (Nat.le_of_ble_eq_true rfl) (Nat.le_of_ble_eq_true rfl) (Nat.le_of_ble_eq_true rfl) rfl (Or.inl rfl) rfl rfl ?_
    refine pm_R_lo pm_M10 (pc' := 135) (pm_q10_1 (Nat.le_of_ble_eq_true rfl)) rfl rfl ?_
    refine pm_R_get pm_M10 (pc' := 138) (v := .ref 17) (pm_q10_1 (Nat.le_of_ble_eq_true rfl)) rfl (hh 16 (Nat.le_of_ble_eq_true rfl)) (Nat.le_of_ble_eq_true rfl) (Nat.le_of_ble_eq_true rfl) rfl rfl ?_
    refine pm_R_lo pm_M10 (pc' := 139) (pm_q10_1 (Nat.le_of_ble_eq_true rfl)) rfl rfl ?_
    refine pm_R_get pm_M10 (pc' := 142) (v := .ref 25) (pm_q10_1 (Nat.le_of_ble_eq_true rfl)) rfl (hh 16 (Nat.le_of_ble_eq_true rfl)) (Nat.le_of_ble_eq_true rfl) (Nat.le_of_ble_eq_true rfl) rfl rfl ?_
    refine pm_R_get pm_M10 (pc' := 145) (v := .int (-1)) (pm_q10_1 (Nat.le_of_ble_eq_true rfl)) rfl rfl (Nat.le_of_ble_eq_true rfl) (Nat.le_of_ble_eq_true rfl) rfl rfl ?_
    refine pm_R_put pm_M10 (pc' := 148) (fs' := [.ref 18, .int 0, .int 0, .int (-1), .ref 19, .ref 20, .ref 21, .ref 22, .ref 23]) (pm_q10_1 (Nat.le_of_ble_eq_true rfl)) rfl rfl rfl (Nat.le_of_ble_eq_true rfl) (Nat.le_of_ble_eq_true rfl) (Nat.le_of_ble_eq_true rfl) rfl (Or.inl rfl) rfl rfl ?_
    refine pm_R_lo pm_M10 (pc' := 149) (pm_q10_1 (Nat.le_of_ble_eq_true rfl)) rfl rfl ?_
    refine pm_R_get pm_M10 (pc' := 152) (v := .ref 17) (pm_q10_1 (Nat.le_of_ble_eq_true rfl)) rfl (hh 16 (Nat.le_of_ble_eq_true rfl)) (Nat.le_of_ble_eq_true rfl) (Nat.le_of_ble_eq_true rfl) rfl rfl ?_
    refine pm_R_get pm_M10 (pc' := 155) (v := .int 0) (pm_q10_1 (Nat.le_of_ble_eq_true rfl)) rfl rfl (Nat.le_of_ble_eq_true rfl) (Nat.le_of_ble_eq_true rfl) rfl rfl ?_
    refine pm_R_br pm_M10 (pc' := 160) (st' := []) (pm_q10_1 (Nat.le_of_ble_eq_true rfl)) rfl ?_
    refine pm_R_lo pm_M10 (pc' := 161) (pm_q10_1 (Nat.le_of_ble_eq_true rfl)) rfl rfl ?_
    refine pm_R_lo pm_M10 (pc' := 162) (pm_q10_1 (Nat.le_of_ble_eq_true rfl)) rfl rfl ?_
    refine pm_R_lo pm_M10 (pc' := 164) (pm_q10_1 (Nat.le_of_ble_eq_true rfl)) rfl rfl ?_
    refine pm_R_cv pm_M10 (pc' := 167) (a := 16) (ra := [.int 0, .int 0]) (rest := []) (ls' := [.ref 16, .int 0, .int 0]) (pm_q10_1 (Nat.le_of_ble_eq_true rfl)) rfl (Or.inl rfl) pm_M43 (hh 16 (Nat.le_of_ble_eq_true rfl)) rfl (Nat.le_of_ble_eq_true rfl) (Nat.le_of_ble_eq_true rfl) rfl rfl (Nat.le_of_ble_eq_true rfl) rfl rfl ?_
    refine pm_R_lo pm_M43 (pc' := 1) rfl rfl rfl ?_
    refine pm_R_br pm_M43 (pc' := 28) (st' := []) rfl rfl ?_
    refine pm_R_lo pm_M43 (pc' := 29) rfl rfl rfl ?_
    refine pm_R_get pm_M43 (pc' := 32) (v := .ref 17) rfl rfl (hh 16 (Nat.le_of_ble_eq_true rfl)) (Nat.le_of_ble_eq_true rfl) (Nat.le_of_ble_eq_true rfl) rfl rfl ?_
    refine pm_R_get pm_M43 (pc' := 35) (v := .ref 19) rfl rfl rfl (Nat.le_of_ble_eq_true rfl) (Nat.le_of_ble_eq_true rfl) rfl rfl ?_
    refine pm_R_lo pm_M43 (pc' := 36) rfl rfl rfl ?_
    refine pm_R_new pm_M43 (pc' := 39) (fs := [.int 0, .null, .int 0, .null, .null, .null, .null, .int 0]) rfl rfl rfl rfl rfl ?_
    show pm_R _ 43 39 [.ref 16, .int 0, .int 0] [.ref 72, .int 0, .ref 19] _ _
    refine pm_R_op pm_M43 (pc' := 40) (st' := [.ref 72, .ref 72, .int 0, .ref 19]) rfl rfl rfl ?_
    refine pm_R_lo pm_M43 (pc' := 41) rfl rfl rfl ?_
    refine pm_R_get pm_M43 (pc' := 44) (v := .ref 25) rfl rfl (hh 16 (Nat.le_of_ble_eq_true rfl)) (Nat.le_of_ble_eq_true rfl) (Nat.le_of_ble_eq_true rfl) rfl rfl ?_
    refine pm_R_ci pm_M43 (pc' := 47) (a := 72) (ra := [.ref 25]) (rest := [.ref 72, .int 0, .ref 19]) (ls' := [.ref 72, .ref 25, pm_no, pm_no]) rfl rfl (Or.inl rfl) pm_M44 rfl rfl (Nat.le_of_ble_eq_true rfl) rfl rfl ?_
    refine pm_R_lo pm_M44 (pc' := 1) rfl rfl rfl ?_
    refine pm_R_obj pm_M44 (pc' := 4) rfl rfl rfl (Nat.le_of_ble_eq_true rfl) rfl ?_
    refine pm_R_lo pm_M44 (pc' := 5) rfl rfl rfl ?_
    refine pm_R_op pm_M44 (pc' := 7) (st' := [.int 60, .ref 72]) rfl rfl rfl ?_
    refine pm_R_newa pm_M44 (pc' := 9) (N := 60) rfl rfl (by decide) rfl (Nat.le_of_ble_eq_true rfl) rfl ?_
    show pm_R _ 44 9 [.ref 72, .ref 25, pm_no, pm_no] [.ref 73, .ref 72] _ _
    refine pm_R_put pm_M44 (pc' := 12) (fs' := [.int 0, .null, .int 0, .null, .null, .ref 73, .null, .int 0]) rfl rfl rfl rfl (Nat.le_of_ble_eq_true rfl) (Nat.le_of_ble_eq_true rfl) (Nat.le_of_ble_eq_true rfl) rfl (Or.inr ⟨pm_N44_ini, rfl, rfl⟩) rfl rfl ?_
    refine pm_R_lo pm_M44 (pc' := 13) rfl rfl rfl ?_
    refine pm_R_op pm_M44 (pc' := 15) (st' := [.int 100, .ref 72]) rfl rfl rfl ?_
    refine pm_R_newa pm_M44 (pc' := 17) (N := 100) rfl rfl (by decide) rfl (Nat.le_of_ble_eq_true rfl) rfl ?_
    show pm_R _ 44 17 [.ref 72, .ref 25, pm_no, pm_no] [.ref 74, .ref 72] _ _
    refine pm_R_put pm_M44 (pc' := 20) (fs' := [.int 0, .null, .int 0, .null, .null, .ref 73, .ref 74, .int 0]) rfl rfl rfl rfl (Nat.le_of_ble_eq_true rfl) (Nat.le_of_ble_eq_true rfl) (Nat.le_of_ble_eq_true rfl) rfl (Or.inr ⟨pm_N44_ini, rfl, rfl⟩) rfl rfl ?_
    refine pm_R_lo pm_M44 (pc' := 21) rfl rfl rfl ?_
    refine pm_R_lo pm_M44 (pc' := 22) rfl rfl rfl ?_
    refine pm_R_get pm_M44 (pc' := 25) (v := .int 0) rfl rfl rfl (Nat.le_of_ble_eq_true rfl) (Nat.le_of_ble_eq_true rfl) rfl rfl ?_
    refine pm_R_put pm_M44 (pc' := 28) (fs' := [.int 0, .null, .int 0, .null, .null, .ref 73, .ref 74, .int 0]) rfl rfl rfl rfl (Nat.le_of_ble_eq_true rfl) (Nat.le_of_ble_eq_true rfl) (Nat.le_of_ble_eq_true rfl) rfl (Or.inr ⟨pm_N44_ini, rfl, rfl⟩) rfl rfl ?_
    refine pm_R_lo pm_M44 (pc' := 29) rfl rfl rfl ?_
    refine pm_R_lo pm_M44 (pc' := 30) rfl rfl rfl ?_
    refine pm_R_get pm_M44 (pc' := 33) (v := .ref 26) rfl rfl rfl (Nat.le_of_ble_eq_true rfl) (Nat.le_of_ble_eq_true rfl) rfl rfl ?_
    refine pm_R_lo pm_M44 (pc' := 34) rfl rfl rfl ?_
    refine pm_R_get pm_M44 (pc' := 37) (v := .int 0) rfl rfl rfl (Nat.le_of_ble_eq_true rfl) (Nat.le_of_ble_eq_true rfl) rfl rfl ?_
    refine pm_R_op pm_M44 (pc' := 38) (st' := [.int 4, .int 0, .ref 26, .ref 72]) rfl rfl rfl ?_
    refine pm_R_op pm_M44 (pc' := 39) (st' := [.int 0, .ref 26, .ref 72]) rfl rfl rfl ?_
    refine pm_R_cs pm_M44 (pc' := 42) (ra := [.int 0, .ref 26]) (rest := [.ref 72]) (ls' := [.ref 26, .int 0, pm_no]) rfl rfl (Or.inl rfl) pm_M45 rfl rfl (Nat.le_of_ble_eq_true rfl) rfl rfl ?_
    refine pm_R_lo pm_M45 (pc' := 1) rfl rfl rfl ?_
    refine pm_R_lo pm_M45 (pc' := 2) rfl rfl rfl ?_
    refine pm_R_alen pm_M45 (pc' := 3) (v := 200) rfl (hh 26 (Nat.le_of_ble_eq_true rfl)) (Nat.le_of_ble_eq_true rfl) (Nat.le_of_ble_eq_true rfl) (Nat.le_of_ble_eq_true rfl) rfl rfl ?_
    refine pm_R_br pm_M45 (pc' := 14) (st' := []) rfl rfl ?_
    refine pm_R_lo pm_M45 (pc' := 15) rfl rfl rfl ?_
    refine pm_R_newa pm_M45 (pc' := 17) (N := 0) rfl rfl (by decide) rfl (Nat.le_of_ble_eq_true rfl) rfl ?_
    show pm_R _ 45 17 [.ref 26, .int 0, pm_no] [.ref 75] _ _
    refine pm_R_lo pm_M45 (pc' := 18) (ls' := [.ref 26, .int 0, .ref 75]) (st' := []) rfl rfl rfl ?_
    refine pm_R_lo pm_M45 (pc' := 19) rfl rfl rfl ?_
    refine pm_R_op pm_M45 (pc' := 20) (st' := [.int 0, .ref 26]) rfl rfl rfl ?_
    refine pm_R_lo pm_M45 (pc' := 21) rfl rfl rfl ?_
    refine pm_R_op pm_M45 (pc' := 22) (st' := [.int 0, .ref 75, .int 0, .ref 26]) rfl rfl rfl ?_
    refine pm_R_lo pm_M45 (pc' := 23) rfl rfl rfl ?_
    refine pm_R_alen pm_M45 (pc' := 24) (v := 200) rfl (hh 26 (Nat.le_of_ble_eq_true rfl)) (Nat.le_of_ble_eq_true rfl) (Nat.le_of_ble_eq_true rfl) (Nat.le_of_ble_eq_true rfl) rfl rfl ?_
    refine pm_R_lo pm_M45 (pc' := 25) rfl rfl rfl ?_
    refine pm_R_nat pm_M45 (pc' := 28) (st' := [.int 0, .int 0, .ref 75, .int 0, .ref 26]) rfl rfl rfl rfl rfl ?_
    refine pm_R_acp pm_M45 (pc' := 31) (S := 0) (D := 0) (N := 0) rfl rfl rfl (hh 26 (Nat.le_of_ble_eq_true rfl)) rfl (Or.inl rfl) (Nat.le_of_ble_eq_true rfl) (Nat.le_of_ble_eq_true rfl) (Nat.le_of_ble_eq_true rfl) (Nat.le_of_ble_eq_true rfl) rfl rfl rfl (by decide) (by decide) (by decide) (Nat.le_of_ble_eq_true rfl) (Nat.le_of_ble_eq_true rfl) (Nat.le_of_ble_eq_true rfl) rfl ?_
    refine pm_R_lo pm_M45 (pc' := 32) rfl rfl rfl ?_
    refine pm_R_ret pm_M45 (r := some (.ref 75)) rfl rfl ?_
    show pm_R _ 44 42 [.ref 72, .ref 25, pm_no, pm_no] [.ref 75, .ref 72] _ _
    refine pm_R_put pm_M44 (pc' := 45) (fs' := [.int 0, .ref 75, .int 0, .null, .null, .ref 73, .ref 74, .int 0]) rfl rfl rfl rfl (Nat.le_of_ble_eq_true rfl) (Nat.le_of_ble_eq_true rfl) (Nat.le_of_ble_eq_true rfl) rfl (Or.inr ⟨pm_N44_ini, rfl, rfl⟩) rfl rfl ?_
    refine pm_R_lo pm_M44 (pc' := 46) rfl rfl rfl ?_
    refine pm_R_lo pm_M44 (pc' := 47) rfl rfl rfl ?_
    refine pm_R_get pm_M44 (pc' := 50) (v := .int 0) rfl rfl rfl (Nat.le_of_ble_eq_true rfl) (Nat.le_of_ble_eq_true rfl) rfl rfl ?_
    refine pm_R_put pm_M44 (pc' := 53) (fs' := [.int 0, .ref 75, .int 0, .null, .null, .ref 73, .ref 74, .int 0]) rfl rfl rfl rfl (Nat.le_of_ble_eq_true rfl) (Nat.le_of_ble_eq_true rfl) (Nat.le_of_ble_eq_true rfl) rfl (Or.inr ⟨pm_N44_ini, rfl, rfl⟩) rfl rfl ?_
    refine pm_R_lo pm_M44 (pc' := 54) rfl rfl rfl ?_
    refine pm_R_lo pm_M44 (pc' := 55) rfl rfl rfl ?_
    refine pm_R_get pm_M44 (pc' := 58) (v := .ref 27) rfl rfl rfl (Nat.le_of_ble_eq_true rfl) (Nat.le_of_ble_eq_true rfl) rfl rfl ?_
    refine pm_R_lo pm_M44 (pc' := 59) rfl rfl rfl ?_
    refine pm_R_get pm_M44 (pc' := 62) (v := .int 0) rfl rfl rfl (Nat.le_of_ble_eq_true rfl) (Nat.le_of_ble_eq_true rfl) rfl rfl ?_
    refine pm_R_op pm_M44 (pc' := 63) (st' := [.int 4, .int 0, .ref 27, .ref 72]) rfl rfl rfl ?_
    refine pm_R_op pm_M44 (pc' := 64) (st' := [.int 0, .ref 27, .ref 72]) rfl rfl rfl ?_
    refine pm_R_cs pm_M44 (pc' := 67) (ra := [.int 0, .ref 27]) (rest := [.ref 72]) (ls' := [.ref 27, .int 0, pm_no]) rfl rfl (Or.inl rfl) pm_M45 rfl rfl (Nat.le_of_ble_eq_true rfl) rfl rfl ?_
    refine pm_R_lo pm_M45 (pc' := 1) rfl rfl rfl ?_
    refine pm_R_lo pm_M45 (pc' := 2) rfl rfl rfl ?_
    refine pm_R_alen pm_M45 (pc' := 3) (v := 64) rfl (hh 27 (Nat.le_of_ble_eq_true rfl)) (Nat.le_of_ble_eq_true rfl) (Nat.le_of_ble_eq_true rfl) (Nat.le_of_ble_eq_true rfl) rfl rfl ?_
    refine pm_R_br pm_M45 (pc' := 14) (st' := []) rfl rfl ?_
    refine pm_R_lo pm_M45 (pc' := 15) rfl rfl rfl ?_
    refine pm_R_newa pm_M45 (pc' := 17) (N := 0) rfl rfl (by decide) rfl (Nat.le_of_ble_eq_true rfl) rfl ?_
    show pm_R _ 45 17 [.ref 27, .int 0, pm_no] [.ref 76] _ _
    refine pm_R_lo pm_M45 (pc' := 18) (ls' := [.ref 27, .int 0, .ref 76]) (st' := []) rfl rfl rfl ?_
    refine pm_R_lo pm_M45 (pc' := 19) rfl rfl rfl ?_
    refine pm_R_op pm_M45 (pc' := 20) (st' := [.int 0, .ref 27]) rfl rfl rfl ?_
    refine pm_R_lo pm_M45 (pc' := 21) rfl rfl rfl ?_
    refine pm_R_op pm_M45 (pc' := 22) (st' := [.int 0, .ref 76, .int 0, .ref 27]) rfl rfl rfl ?_
    refine pm_R_lo pm_M45 (pc' := 23) rfl rfl rfl ?_
    refine pm_R_alen pm_M45 (pc' := 24) (v := 64) rfl (hh 27 (Nat.le_of_ble_eq_true rfl)) (Nat.le_of_ble_eq_true rfl) (Nat.le_of_ble_eq_true rfl) (Nat.le_of_ble_eq_true rfl) rfl rfl ?_
    refine pm_R_lo pm_M45 (pc' := 25) rfl rfl rfl ?_
    refine pm_R_nat pm_M45 (pc' := 28) (st' := [.int 0, .int 0, .ref 76, .int 0, .ref 27]) rfl rfl rfl rfl rfl ?_
    refine pm_R_acp pm_M45 (pc' := 31) (S := 0) (D := 0) (N := 0) rfl rfl rfl (hh 27 (Nat.le_of_ble_eq_true rfl)) rfl (Or.inl rfl) (Nat.le_of_ble_eq_true rfl) (Nat.le_of_ble_eq_true rfl) (Nat.le_of_ble_eq_true rfl) (Nat.le_of_ble_eq_true rfl) rfl rfl rfl (by decide) (by decide) (by decide) (Nat.le_of_ble_eq_true rfl) (Nat.le_of_ble_eq_true rfl) (Nat.le_of_ble_eq_true rfl) rfl ?_
    refine pm_R_lo pm_M45 (pc' := 32) rfl rfl rfl ?_
    refine pm_R_ret pm_M45 (r := some (.ref 76)) rfl rfl ?_
    show pm_R _ 44 67 [.ref 72, .ref 25, pm_no, pm_no] [.ref 76, .ref 72] _ _
    refine pm_R_put pm_M44 (pc' := 70) (fs' := [.int 0, .ref 75, .int 0, .ref 76, .null, .ref 73, .ref 74, .int 0]) rfl rfl rfl rfl (Nat.le_of_ble_eq_true rfl) (Nat.le_of_ble_eq_true rfl) (Nat.le_of_ble_eq_true rfl) rfl (Or.inr ⟨pm_N44_ini, rfl, rfl⟩) rfl rfl ?_
    refine pm_R_lo pm_M44 (pc' := 71) rfl rfl rfl ?_
    refine pm_R_lo pm_M44 (pc' := 72) rfl rfl rfl ?_
    refine pm_R_get pm_M44 (pc' := 75) (v := .ref 28) rfl rfl rfl (Nat.le_of_ble_eq_true rfl) (Nat.le_of_ble_eq_true rfl) rfl rfl ?_
    refine pm_R_nat pm_M44 (pc' := 78) (st' := [.ref 77, .ref 72]) rfl rfl rfl rfl rfl ?_
    refine pm_R_hp pm_M44 (pc' := 81) (st' := [.ref 77, .ref 72]) rfl rfl rfl rfl ?_
    refine pm_R_put pm_M44 (pc' := 84) (fs' := [.int 0, .ref 75, .int 0, .ref 76, .ref 77, .ref 73, .ref 74, .int 0]) rfl rfl rfl rfl (Nat.le_of_ble_eq_true rfl) (Nat.le_of_ble_eq_true rfl) (Nat.le_of_ble_eq_true rfl) rfl (Or.inr ⟨pm_N44_ini, rfl, rfl⟩) rfl rfl ?_
    refine pm_R_op pm_M44 (pc' := 85) (st' := [.int 0]) rfl rfl rfl ?_
    refine pm_R_lo pm_M44 (pc' := 86) (ls' := [.ref 72, .ref 25, .int 0, pm_no]) (st' := []) rfl rfl rfl ?_
    refine pm_R_lo pm_M44 (pc' := 87) rfl rfl rfl ?_
    refine pm_R_lo pm_M44 (pc' := 88) rfl rfl rfl ?_
    refine pm_R_get pm_M44 (pc' := 91) (v := .int 0) rfl rfl rfl (Nat.le_of_ble_eq_true rfl) (Nat.le_of_ble_eq_true rfl) rfl rfl ?_
    refine pm_R_br pm_M44 (pc' := 142) (st' := []) rfl rfl ?_
    refine pm_R_op pm_M44 (pc' := 143) (st' := [.int 0]) (pm_q44_1 (Nat.le_of_ble_eq_true rfl)) rfl rfl ?_
    refine pm_R_lo pm_M44 (pc' := 144) (ls' := [.ref 72, .ref 25, .int 0, pm_no]) (st' := []) (pm_q44_1 (Nat.le_of_ble_eq_true rfl)) rfl rfl ?_
    refine pm_R_lo pm_M44 (pc' := 145) (pm_q44_1 (Nat.le_of_ble_eq_true rfl)) rfl rfl ?_
    refine pm_R_op pm_M44 (pc' := 147) (st' := [.int 10, .int 0]) (pm_q44_1 (Nat.le_of_ble_eq_true rfl)) rfl rfl ?_
    refine pm_R_br pm_M44 (pc' := 150) (st' := []) (pm_q44_1 (Nat.le_of_ble_eq_true rfl)) rfl ?_
    refine pm_R_lo pm_M44 (pc' := 151) (pm_q44_1 (Nat.le_of_ble_eq_true rfl)) rfl rfl ?_
    refine pm_R_get pm_M44 (pc' := 154) (v := .ref 74) (pm_q44_1 (Nat.le_of_ble_eq_true rfl)) rfl rfl (Nat.le_of_ble_eq_true rfl) (Nat.le_of_ble_eq_true rfl) rfl rfl ?_
    refine pm_R_lo pm_M44 (pc' := 155) (pm_q44_1 (Nat.le_of_ble_eq_true rfl)) rfl rfl ?_
    refine pm_R_op pm_M44 (pc' := 156) (st' := [.int 1, .int 0, .ref 74]) (pm_q44_1 (Nat.le_of_ble_eq_true rfl)) rfl rfl ?_
    refine pm_R_lo pm_M44 (pc' := 157) (pm_q44_1 (Nat.le_of_ble_eq_true rfl)) rfl rfl ?_
    refine pm_R_op pm_M44 (pc' := 158) (st' := [.int 1, .int 0, .ref 74]) (pm_q44_1 (Nat.le_of_ble_eq_true rfl)) rfl rfl ?_
    refine pm_R_iast pm_M44 (pc' := 159) (pm_q44_1 (Nat.le_of_ble_eq_true rfl)) rfl (Nat.le_of_ble_eq_true rfl) (Nat.le_of_ble_eq_true rfl) rfl rfl ?_
    refine pm_R_lo pm_M44 (pc' := 162) (ls' := [.ref 72, .ref 25, .int 1, pm_no]) (st' := []) (pm_q44_1 (Nat.le_of_ble_eq_true rfl)) rfl rfl ?_
    refine pm_R_br pm_M44 (pc' := 144) (pm_q44_1 (Nat.le_of_ble_eq_true rfl)) rfl ?_
    refine pm_R_lo pm_M44 (pc' := 145) (pm_q44_1 (Nat.le_of_ble_eq_true rfl)) rfl rfl ?_
    refine pm_R_op pm_M44 (pc' := 147) (st' := [.int 10, .int 1]) (pm_q44_1 (Nat.le_of_ble_eq_true rfl)) rfl rfl ?_
    refine pm_R_br pm_M44 (pc' := 150) (st' := []) (pm_q44_1 (Nat.le_of_ble_eq_true rfl)) rfl ?_
    refine pm_R_lo pm_M44 (pc' := 151) (pm_q44_1 (Nat.le_of_ble_eq_true rfl)) rfl rfl ?_
    refine pm_R_get pm_M44 (pc' := 154) (v := .ref 74) (pm_q44_1 (Nat.le_of_ble_eq_true rfl)) rfl rfl (Nat.le_of_ble_eq_true rfl) (Nat.le_of_ble_eq_true rfl) rfl rfl ?_
    refine pm_R_lo pm_M44 (pc' := 155) (pm_q44_1 (Nat.le_of_ble_eq_true rfl)) rfl rfl ?_
    refine pm_R_op pm_M44 (pc' := 156) (st' := [.int 1, .int 1, .ref 74]) (pm_q44_1 (Nat.le_of_ble_eq_true rfl)) rfl rfl ?_
    refine pm_R_lo pm_M44 (pc' := 157) (pm_q44_1 (Nat.le_of_ble_eq_true rfl)) rfl rfl ?_
    refine pm_R_op pm_M44 (pc' := 158) (st' := [.int 2, .int 1, .ref 74]) (pm_q44_1 (Nat.le_of_ble_eq_true rfl)) rfl rfl ?_
    refine pm_R_iast pm_M44 (pc' := 159) (pm_q44_1 (Nat.le_of_ble_eq_true rfl)) rfl (Nat.le_of_ble_eq_true rfl) (Nat.le_of_ble_eq_true rfl) rfl rfl ?_
    refine pm_R_lo pm_M44 (pc' := 162) (ls' := [.ref 72, .ref 25, .int 2, pm_no]) (st' := []) (pm_q44_1 (Nat.le_of_ble_eq_true rfl)) rfl rfl ?_
    refine pm_R_br pm_M44 (pc' := 144) (pm_q44_1 (Nat.le_of_ble_eq_true rfl)) rfl ?_
    refine pm_R_lo pm_M44 (pc' := 145) (pm_q44_1 (Nat.le_of_ble_eq_true rfl)) rfl rfl ?_
    refine pm_R_op pm_M44 (pc' := 147) (st' := [.int 10, .int 2]) (pm_q44_1 (Nat.le_of_ble_eq_true rfl)) rfl rfl ?_
    refine pm_R_br pm_M44 (pc' := 150) (st' := []) (pm_q44_1 (Nat.le_of_ble_eq_true rfl)) rfl ?_
    refine pm_R_lo pm_M44 (pc' := 151) (pm_q44_1 (Nat.le_of_ble_eq_true rfl)) rfl rfl ?_
    refine pm_R_get pm_M44 (pc' := 154) (v := .ref 74) (pm_q44_1 (Nat.le_of_ble_eq_true rfl)) rfl rfl (Nat.le_of_ble_eq_true rfl) (Nat.le_of_ble_eq_true rfl) rfl rfl ?_
    refine pm_R_lo pm_M44 (pc' := 155) (pm_q44_1 (Nat.le_of_ble_eq_true rfl)) rfl rfl ?_
    refine pm_R_op pm_M44 (pc' := 156) (st' := [.int 1, .int 2, .ref 74]) (pm_q44_1 (Nat.le_of_ble_eq_true rfl)) rfl rfl ?_
    refine pm_R_lo pm_M44 (pc' := 157) (pm_q44_1 (Nat.le_of_ble_eq_true rfl)) rfl rfl ?_
    refine pm_R_op pm_M44 (pc' := 158) (st' := [.int 4, .int 2, .ref 74]) (pm_q44_1 (Nat.le_of_ble_eq_true rfl)) rfl rfl ?_
    refine pm_R_iast pm_M44 (pc' := 159) (pm_q44_1 (Nat.le_of_ble_eq_true rfl)) rfl (Nat.le_of_ble_eq_true rfl) (Nat.le_of_ble_eq_true rfl) rfl rfl ?_
    refine pm_R_lo pm_M44 (pc' := 162) (ls' := [.ref 72, .ref 25, .int 3, pm_no]) (st' := []) (pm_q44_1 (Nat.le_of_ble_eq_true rfl)) rfl rfl ?_
    refine pm_R_br pm_M44 (pc' := 144) (pm_q44_1 (Nat.le_of_ble_eq_true rfl)) rfl ?_
    refine pm_R_lo pm_M44 (pc' := 145) (pm_q44_1 (Nat.le_of_ble_eq_true rfl)) rfl rfl ?_
    refine pm_R_op pm_M44 (pc' := 147) (st' := [.int 10, .int 3]) (pm_q44_1 (Nat.le_of_ble_eq_true rfl)) rfl rfl ?_
    refine pm_R_br pm_M44 (pc' := 150) (st' := []) (pm_q44_1 (Nat.le_of_ble_eq_true rfl)) rfl ?_
    refine pm_R_lo pm_M44 (pc' := 151) (pm_q44_1 (Nat.le_of_ble_eq_true rfl)) rfl rfl ?_
    refine pm_R_get pm_M44 (pc' := 154) (v := .ref 74) (pm_q44_1 (Nat.le_of_ble_eq_true rfl)) rfl rfl (Nat.le_of_ble_eq_true rfl) (Nat.le_of_ble_eq_true rfl) rfl rfl ?_
    refine pm_R_lo pm_M44 (pc' := 155) (pm_q44_1 (Nat.le_of_ble_eq_true rfl)) rfl rfl ?_
    refine pm_R_op pm_M44 (pc' := 156) (st' := [.int 1, .int 3, .ref 74]) (pm_q44_1 (Nat.le_of_ble_eq_true rfl)) rfl rfl ?_
    refine pm_R_lo pm_M44 (pc' := 157) (pm_q44_1 (Nat.le_of_ble_eq_true rfl)) rfl rfl ?_
    refine pm_R_op pm_M44 (pc' := 158) (st' := [.int 8, .int 3, .ref 74]) (pm_q44_1 (Nat.le_of_ble_eq_true rfl)) rfl rfl ?_
    refine pm_R_iast pm_M44 (pc' := 159) (pm_q44_1 (Nat.le_of_ble_eq_true rfl)) rfl (Nat.le_of_ble_eq_true rfl) (Nat.le_of_ble_eq_true rfl) rfl rfl ?_
    refine pm_R_lo pm_M44 (pc' := 162) (ls' := [.ref 72, .ref 25, .int 4, pm_no]) (st' := []) (pm_q44_1 (Nat.le_of_ble_eq_true rfl)) rfl rfl ?_
    refine pm_R_br pm_M44 (pc' := 144) (pm_q44_1 (Nat.le_of_ble_eq_true rfl)) rfl ?_
    refine pm_R_lo pm_M44 (pc' := 145) (pm_q44_1 (Nat.le_of_ble_eq_true rfl)) rfl rfl ?_
    refine pm_R_op pm_M44 (pc' := 147) (st' := [.int 10, .int 4]) (pm_q44_1 (Nat.le_of_ble_eq_true rfl)) rfl rfl ?_
    refine pm_R_br pm_M44 (pc' := 150) (st' := []) (pm_q44_1 (Nat.le_of_ble_eq_true rfl)) rfl ?_
    refine pm_R_lo pm_M44 (pc' := 151) (pm_q44_1 (Nat.le_of_ble_eq_true rfl)) rfl rfl ?_
    refine pm_R_get pm_M44 (pc' := 154) (v := .ref 74) (pm_q44_1 (Nat.le_of_ble_eq_true rfl)) rfl rfl (Nat.le_of_ble_eq_true rfl) (Nat.le_of_ble_eq_true rfl) rfl rfl ?_
    refine pm_R_lo pm_M44 (pc' := 155) (pm_q44_1 (Nat.le_of_ble_eq_true rfl)) rfl rfl ?_
    refine pm_R_op pm_M44 (pc' := 156) (st' := [.int 1, .int 4, .ref 74]) (pm_q44_1 (Nat.le_of_ble_eq_true rfl)) rfl rfl ?_
    refine pm_R_lo pm_M44 (pc' := 157) (pm_q44_1 (Nat.le_of_ble_eq_true rfl)) rfl rfl ?_
    refine pm_R_op pm_M44 (pc' := 158) (st' := [.int 16, .int 4, .ref 74]) (pm_q44_1 (Nat.le_of_ble_eq_true rfl)) rfl rfl ?_
    refine pm_R_iast pm_M44 (pc' := 159) (pm_q44_1 (Nat.le_of_ble_eq_true rfl)) rfl (Nat.le_of_ble_eq_true rfl) (Nat.le_of_ble_eq_true rfl) rfl rfl ?_
    refine pm_R_lo pm_M44 (pc' := 162) (ls' := [.ref 72, .ref 25, .int 5, pm_no]) (st' := []) (pm_q44_1 (Nat.le_of_ble_eq_true rfl)) rfl rfl ?_
    refine pm_R_br pm_M44 (pc' := 144) (pm_q44_1 (Nat.le_of_ble_eq_true rfl)) rfl ?_
    refine pm_R_lo pm_M44 (pc' := 145) (pm_q44_1 (Nat.le_of_ble_eq_true rfl)) rfl rfl ?_
    refine pm_R_op pm_M44 (pc' := 147) (st' := [.int 10, .int 5]) (pm_q44_1 (Nat.le_of_ble_eq_true rfl)) rfl rfl ?_
    refine pm_R_br pm_M44 (pc' := 150) (st' := []) (pm_q44_1 (Nat.le_of_ble_eq_true rfl)) rfl ?_
    refine pm_R_lo pm_M44 (pc' := 151) (pm_q44_1 (Nat.le_of_ble_eq_true rfl)) rfl rfl ?_
    refine pm_R_get pm_M44 (pc' := 154) (v := .ref 74) (pm_q44_1 (Nat.le_of_ble_eq_true rfl)) rfl rfl (Nat.le_of_ble_eq_true rfl) (Nat.le_of_ble_eq_true rfl) rfl rfl ?_
    refine pm_R_lo pm_M44 (pc' := 155) (pm_q44_1 (Nat.le_of_ble_eq_true rfl)) rfl rfl ?_
    refine pm_R_op pm_M44 (pc' := 156) (st' := [.int 1, .int 5, .ref 74]) (pm_q44_1 (Nat.le_of_ble_eq_true rfl)) rfl rfl ?_
    refine pm_R_lo pm_M44 (pc' := 157) (pm_q44_1 (Nat.le_of_ble_eq_true rfl)) rfl rfl ?_
    refine pm_R_op pm_M44 (pc' := 158) (st' := [.int 32, .int 5, .ref 74]) (pm_q44_1 (Nat.le_of_ble_eq_true rfl)) rfl rfl ?_
    refine pm_R_iast pm_M44 (pc' := 159) (pm_q44_1 (Nat.le_of_ble_eq_true rfl)) rfl (Nat.le_of_ble_eq_true rfl) (Nat.le_of_ble_eq_true rfl) rfl rfl ?_
    refine pm_R_lo pm_M44 (pc' := 162) (ls' := [.ref 72, .ref 25, .int 6, pm_no]) (st' := []) (pm_q44_1 (Nat.le_of_ble_eq_true rfl)) rfl rfl ?_
    refine pm_R_br pm_M44 (pc' := 144) (pm_q44_1 (Nat.le_of_ble_eq_true rfl)) rfl ?_
    refine pm_R_lo pm_M44 (pc' := 145) (pm_q44_1 (Nat.le_of_ble_eq_true rfl)) rfl rfl ?_
    refine pm_R_op pm_M44 (pc' := 147) (st' := [.int 10, .int 6]) (pm_q44_1 (Nat.le_of_ble_eq_true rfl)) rfl rfl ?_
    refine pm_R_br pm_M44 (pc' := 150) (st' := []) (pm_q44_1 (Nat.le_of_ble_eq_true rfl)) rfl ?_
    refine pm_R_lo pm_M44 (pc' := 151) (pm_q44_1 (Nat.le_of_ble_eq_true rfl)) rfl rfl ?_
    refine pm_R_get pm_M44 (pc' := 154) (v := .ref 74) (pm_q44_1 (Nat.le_of_ble_eq_true rfl)) rfl rfl (Nat.le_of_ble_eq_true rfl) (Nat.le_of_ble_eq_true rfl) rfl rfl ?_
    refine pm_R_lo pm_M44 (pc' := 155) (pm_q44_1 (Nat.le_of_ble_eq_true rfl)) rfl rfl ?_
    refine pm_R_op pm_M44 (pc' := 156) (st' := [.int 1, .int 6, .ref 74]) (pm_q44_1 (Nat.le_of_ble_eq_true rfl)) rfl rfl ?_
    refine pm_R_lo pm_M44 (pc' := 157) (pm_q44_1 (Nat.le_of_ble_eq_true rfl)) rfl rfl ?_
    refine pm_R_op pm_M44 (pc' := 158) (st' := [.int 64, .int 6, .ref 74]) (pm_q44_1 (Nat.le_of_ble_eq_true rfl)) rfl rfl ?_
    refine pm_R_iast pm_M44 (pc' := 159) (pm_q44_1 (Nat.le_of_ble_eq_true rfl)) rfl (Nat.le_of_ble_eq_true rfl) (Nat.le_of_ble_eq_true rfl) rfl rfl ?_
    refine pm_R_lo pm_M44 (pc' := 162) (ls' := [.ref 72, .ref 25, .int 7, pm_no]) (st' := []) (pm_q44_1 (Nat.le_of_ble_eq_true rfl)) rfl rfl ?_
    refine pm_R_br pm_M44 (pc' := 144) (pm_q44_1 (Nat.le_of_ble_eq_true rfl)) rfl ?_
    refine pm_R_lo pm_M44 (pc' := 145) (pm_q44_1 (Nat.le_of_ble_eq_true rfl)) rfl rfl ?_
    refine pm_R_op pm_M44 (pc' := 147) (st' := [.int 10, .int 7]) (pm_q44_1 (Nat.le_of_ble_eq_true rfl)) rfl rfl ?_
    refine pm_R_br pm_M44 (pc' := 150) (st' := []) (pm_q44_1 (Nat.le_of_ble_eq_true rfl)) rfl ?_
    refine pm_R_lo pm_M44 (pc' := 151) (pm_q44_1 (Nat.le_of_ble_eq_true rfl)) rfl rfl ?_
    refine pm_R_get pm_M44 (pc' := 154) (v := .ref 74) (pm_q44_1 (Nat.le_of_ble_eq_true rfl)) rfl rfl (Nat.le_of_ble_eq_true rfl) (Nat.le_of_ble_eq_true rfl) rfl rfl ?_
    refine pm_R_lo pm_M44 (pc' := 155) (pm_q44_1 (Nat.le_of_ble_eq_true rfl)) rfl rfl ?_
    refine pm_R_op pm_M44 (pc' := 156) (st' := [.int 1, .int 7, .ref 74]) (pm_q44_1 (Nat.le_of_ble_eq_true rfl)) rfl rfl ?_
    refine pm_R_lo pm_M44 (pc' := 157) (pm_q44_1 (Nat.le_of_ble_eq_true rfl)) rfl rfl ?_
    refine pm_R_op pm_M44 (pc' := 158) (st' := [.int 128, .int 7, .ref 74]) (pm_q44_1 (Nat.le_of_ble_eq_true rfl)) rfl rfl ?_
    refine pm_R_iast pm_M44 (pc' := 159) (pm_q44_1 (Nat.le_of_ble_eq_true rfl)) rfl (Nat.le_of_ble_eq_true rfl) (Nat.le_of_ble_eq_true rfl) rfl rfl ?_
    refine pm_R_lo pm_M44 (pc' := 162) (ls' := [.ref 72, .ref 25, .int 8, pm_no]) (st' := []) (pm_q44_1 (Nat.le_of_ble_eq_true rfl)) rfl rfl ?_
    refine pm_R_br pm_M44 (pc' := 144) (pm_q44_1 (Nat.le_of_ble_eq_true rfl)) rfl ?_
    refine pm_R_lo pm_M44 (pc' := 145) (pm_q44_1 (Nat.le_of_ble_eq_true rfl)) rfl rfl ?_
    refine pm_R_op pm_M44 (pc' := 147) (st' := [.int 10, .int 8]) (pm_q44_1 (Nat.le_of_ble_eq_true rfl)) rfl rfl ?_
    refine pm_R_br pm_M44 (pc' := 150) (st' := []) (pm_q44_1 (Nat.le_of_ble_eq_true rfl)) rfl ?_
    refine pm_R_lo pm_M44 (pc' := 151) (pm_q44_1 (Nat.le_of_ble_eq_true rfl)) rfl rfl ?_
    refine pm_R_get pm_M44 (pc' := 154) (v := .ref 74) (pm_q44_1 (Nat.le_of_ble_eq_true rfl)) rfl rfl (Nat.le_of_ble_eq_true rfl) (Nat.le_of_ble_eq_true rfl) rfl rfl ?_
    refine pm_R_lo pm_M44 (pc' := 155) (pm_q44_1 (Nat.le_of_ble_eq_true rfl)) rfl rfl ?_
    refine pm_R_op pm_M44 (pc' := 156) (st' := [.int 1, .int 8, .ref 74]) (pm_q44_1 (Nat.le_of_ble_eq_true rfl)) rfl rfl ?_
    refine pm_R_lo pm_M44 (pc' := 157) (pm_q44_1 (Nat.le_of_ble_eq_true rfl)) rfl rfl ?_
    refine pm_R_op pm_M44 (pc' := 158) (st' := [.int 256, .int 8, .ref 74]) (pm_q44_1 (Nat.le_of_ble_eq_true rfl)) rfl rfl ?_
    refine pm_R_iast pm_M44 (pc' := 159) (pm_q44_1 (Nat.le_of_ble_eq_true rfl)) rfl (Nat.le_of_ble_eq_true rfl) (Nat.le_of_ble_eq_true rfl) rfl rfl ?_
    refine pm_R_lo pm_M44 (pc' := 162) (ls' := [.ref 72, .ref 25, .int 9, pm_no]) (st' := []) (pm_q44_1 (Nat.le_of_ble_eq_true rfl)) rfl rfl ?_
    refine pm_R_br pm_M44 (pc' := 144) (pm_q44_1 (Nat.le_of_ble_eq_true rfl)) rfl ?_
    refine pm_R_lo pm_M44 (pc' := 145) (pm_q44_1 (Nat.le_of_ble_eq_true rfl)) rfl rfl ?_
    refine pm_R_op pm_M44 (pc' := 147) (st' := [.int 10, .int 9]) (pm_q44_1 (Nat.le_of_ble_eq_true rfl)) rfl rfl ?_
    refine pm_R_br pm_M44 (pc' := 150) (st' := []) (pm_q44_1 (Nat.le_of_ble_eq_true rfl)) rfl ?_
    refine pm_R_lo pm_M44 (pc' := 151) (pm_q44_1 (Nat.le_of_ble_eq_true rfl)) rfl rfl ?_
    refine pm_R_get pm_M44 (pc' := 154) (v := .ref 74) (pm_q44_1 (Nat.le_of_ble_eq_true rfl)) rfl rfl (Nat.le_of_ble_eq_true rfl) (Nat.le_of_ble_eq_true rfl) rfl rfl ?_
    refine pm_R_lo pm_M44 (pc' := 155) (pm_q44_1 (Nat.le_of_ble_eq_true rfl)) rfl rfl ?_
    refine pm_R_op pm_M44 (pc' := 156) (st' := [.int 1, .int 9, .ref 74]) (pm_q44_1 (Nat.le_of_ble_eq_true rfl)) rfl rfl ?_
    refine pm_R_lo pm_M44 (pc' := 157) (pm_q44_1 (Nat.le_of_ble_eq_true rfl)) rfl rfl ?_
    refine pm_R_op pm_M44 (pc' := 158) (st' := [.int 512, .int 9, .ref 74]) (pm_q44_1 (Nat.le_of_ble_eq_true rfl)) rfl rfl ?_
    refine pm_R_iast pm_M44 (pc' := 159) (pm_q44_1 (Nat.le_of_ble_eq_true rfl)) rfl (Nat.le_of_ble_eq_true rfl) (Nat.le_of_ble_eq_true rfl) rfl rfl ?_
    refine pm_R_lo pm_M44 (pc' := 162) (ls' := [.ref 72, .ref 25, .int 10, pm_no]) (st' := []) (pm_q44_1 (Nat.le_of_ble_eq_true rfl)) rfl rfl ?_
    refine pm_R_br pm_M44 (pc' := 144) (pm_q44_1 (Nat.le_of_ble_eq_true rfl)) rfl ?_
    refine pm_R_lo pm_M44 (pc' := 145) (pm_q44_1 (Nat.le_of_ble_eq_true rfl)) rfl rfl ?_
    refine pm_R_op pm_M44 (pc' := 147) (st' := [.int 10, .int 10]) (pm_q44_1 (Nat.le_of_ble_eq_true rfl)) rfl rfl ?_
    refine pm_R_br pm_M44 (pc' := 165) (st' := []) (pm_q44_1 (Nat.le_of_ble_eq_true rfl)) rfl ?_
    refine pm_R_op pm_M44 (pc' := 166) (st' := [.int 0]) (pm_q44_1 (Nat.le_of_ble_eq_true rfl)) rfl rfl ?_
    refine pm_R_lo pm_M44 (pc' := 167) (ls' := [.ref 72, .ref 25, .int 0, pm_no]) (st' := []) (pm_q44_1 (Nat.le_of_ble_eq_true rfl)) rfl rfl ?_
    refine pm_R_op pm_M44 (pc' := 168) (st' := [.int 1]) (pm_q44_1 (Nat.le_of_ble_eq_true rfl)) rfl rfl ?_
    refine pm_R_lo pm_M44 (pc' := 169) (ls' := [.ref 72, .ref 25, .int 0, .int 1]) (st' := []) (pm_q44_1 (Nat.le_of_ble_eq_true rfl)) rfl rfl ?_
    refine pm_R_heq (pm_set_self (a := 74) (c := .inl (0, 100, .inl (upd (upd (upd (upd (upd (upd (upd (upd (upd (upd (fun _ => 0) 0 1) 1 2) 2 4) 3 8) 4 16) 5 32) 6 64) 7 128) 8 256) 9 512))) rfl).symm ?_
    refine p1_W3 rfl rfl rfl rfl (Nat.le_of_ble_eq_true rfl) (fun re g_9 => ?_) 9 0 _ _ rfl
    refine pm_R_lo pm_M44 (pc' := 192) (pm_q44_1 (Nat.le_of_ble_eq_true rfl)) rfl rfl ?_
    refine pm_R_lo pm_M44 (pc' := 193) (pm_q44_1 (Nat.le_of_ble_eq_true rfl)) rfl rfl ?_
    refine pm_R_put pm_M44 (pc' := 196) (fs' := [.int 0, .ref 75, .int 0, .ref 76, .ref 77, .ref 73, .ref 74, .int re]) (pm_q44_1 (Nat.le_of_ble_eq_true rfl)) rfl rfl rfl (Nat.le_of_ble_eq_true rfl) (Nat.le_of_ble_eq_true rfl) (Nat.le_of_ble_eq_true rfl) rfl (Or.inr ⟨pm_N44_ini, rfl, rfl⟩) rfl rfl ?_
    refine pm_R_ret pm_M44 (r := none) (pm_q44_1 (Nat.le_of_ble_eq_true rfl)) rfl ?_
    show pm_R _ 43 47 [.ref 16, .int 0, .int 0] [.ref 72, .int 0, .ref 19] _ _
    refine pm_R_aast pm_M43 (pc' := 48) rfl (hh 19 (Nat.le_of_ble_eq_true rfl)) rfl rfl (Nat.le_of_ble_eq_true rfl) (Nat.le_of_ble_eq_true rfl) (Nat.le_of_ble_eq_true rfl) (Nat.le_of_ble_eq_true rfl) rfl rfl ?_
    refine pm_R_br pm_M43 (pc' := 117) rfl rfl ?_
    refine pm_R_ret pm_M43 (r := none) rfl rfl ?_
    show pm_R _ 10 167 [.ref 16, .int 0, .int (-1), .int 0, .int 0, .int 1, .int 0] [] _ _
    refine pm_R_lo pm_M10 (pc' := 169) (pm_q10_1 (Nat.le_of_ble_eq_true rfl)) rfl rfl ?_
    refine pm_R_br pm_M10 (pc' := 172) (st' := []) (pm_q10_1 (Nat.le_of_ble_eq_true rfl)) rfl ?_
    refine pm_R_lo pm_M10 (pc' := 173) (pm_q10_1 (Nat.le_of_ble_eq_true rfl)) rfl rfl ?_
    refine pm_R_get pm_M10 (pc' := 176) (v := .ref 17) (pm_q10_1 (Nat.le_of_ble_eq_true rfl)) rfl (hh 16 (Nat.le_of_ble_eq_true rfl)) (Nat.le_of_ble_eq_true rfl) (Nat.le_of_ble_eq_true rfl) rfl rfl ?_
    refine pm_R_get pm_M10 (pc' := 179) (v := .ref 23) (pm_q10_1 (Nat.le_of_ble_eq_true rfl)) rfl rfl (Nat.le_of_ble_eq_true rfl) (Nat.le_of_ble_eq_true rfl) rfl rfl ?_
    refine pm_R_lo pm_M10 (pc' := 180) (pm_q10_1 (Nat.le_of_ble_eq_true rfl)) rfl rfl ?_
    refine pm_R_op pm_M10 (pc' := 181) (st' := [.int 0, .ref 23, .int 0, .ref 23]) (pm_q10_1 (Nat.le_of_ble_eq_true rfl)) rfl rfl ?_
    refine pm_R_iald pm_M10 (pc' := 182) (v := 0) (pm_q10_1 (Nat.le_of_ble_eq_true rfl)) (hh 23 (Nat.le_of_ble_eq_true rfl)) (Nat.le_of_ble_eq_true rfl) rfl rfl rfl ?_
    refine pm_R_op pm_M10 (pc' := 183) (st' := [.int 1, .int 0, .int 0, .ref 23]) (pm_q10_1 (Nat.le_of_ble_eq_true rfl)) rfl rfl ?_
    refine pm_R_op pm_M10 (pc' := 184) (st' := [.int 1, .int 0, .ref 23]) (pm_q10_1 (Nat.le_of_ble_eq_true rfl)) rfl rfl ?_
    refine pm_R_iast pm_M10 (pc' := 185) (pm_q10_1 (Nat.le_of_ble_eq_true rfl)) (hh 23 (Nat.le_of_ble_eq_true rfl)) (Nat.le_of_ble_eq_true rfl) (Nat.le_of_ble_eq_true rfl) rfl rfl ?_
    refine pm_R_lo pm_M10 (pc' := 187) (pm_q10_1 (Nat.le_of_ble_eq_true rfl)) rfl rfl ?_
    refine pm_R_ret pm_M10 (r := some (.int 0)) (pm_q10_1 (Nat.le_of_ble_eq_true rfl)) rfl ?_
    show pm_R _ 0 320 [.ref 0, .ref 16, .ref 41, .int 0] [.int 0] _ _
    refine pm_R_lo pm_M0 (pc' := 321) (pm_q0_1 (Nat.le_of_ble_eq_true rfl)) rfl rfl ?_
    refine pm_R_lo pm_M0 (pc' := 322) (pm_q0_1 (Nat.le_of_ble_eq_true rfl)) rfl rfl ?_
    refine pm_R_lo pm_M0 (pc' := 323) (pm_q0_1 (Nat.le_of_ble_eq_true rfl)) rfl rfl ?_
    refine pm_R_op pm_M0 (pc' := 324) (st' := [.int 1, .int 0, .ref 0, .ref 41, .int 0]) (pm_q0_1 (Nat.le_of_ble_eq_true rfl)) rfl rfl ?_
    refine pm_R_op pm_M0 (pc' := 325) (st' := [.int 1, .ref 0, .ref 41, .int 0]) (pm_q0_1 (Nat.le_of_ble_eq_true rfl)) rfl rfl ?_
    refine pm_R_iald pm_M0 (pc' := 326) (v := 0) (pm_q0_1 (Nat.le_of_ble_eq_true rfl)) (hh 0 (Nat.le_of_ble_eq_true rfl)) (Nat.le_of_ble_eq_true rfl) rfl hx1 rfl ?_
    refine pm_R_lo pm_M0 (pc' := 327) (pm_q0_1 (Nat.le_of_ble_eq_true rfl)) rfl rfl ?_
    refine pm_R_lo pm_M0 (pc' := 328) (pm_q0_1 (Nat.le_of_ble_eq_true rfl)) rfl rfl ?_
    refine pm_R_op pm_M0 (pc' := 329) (st' := [.int 2, .int 0, .ref 0, .int 0, .ref 41, .int 0]) (pm_q0_1 (Nat.le_of_ble_eq_true rfl)) rfl rfl ?_
    refine pm_R_op pm_M0 (pc' := 330) (st' := [.int 2, .ref 0, .int 0, .ref 41, .int 0]) (pm_q0_1 (Nat.le_of_ble_eq_true rfl)) rfl rfl ?_
    refine pm_R_iald pm_M0 (pc' := 331) (v := (-1)) (pm_q0_1 (Nat.le_of_ble_eq_true rfl)) (hh 0 (Nat.le_of_ble_eq_true rfl)) (Nat.le_of_ble_eq_true rfl) rfl hx2 rfl ?_
    refine pm_R_cv pm_M0 (pc' := 334) (a := 41) (ra := [.int (-1), .int 0]) (rest := [.int 0]) (ls' := [.ref 41, .int 0, .int (-1), pm_no]) (pm_q0_1 (Nat.le_of_ble_eq_true rfl)) rfl (Or.inl rfl) pm_M175 (hh 41 (Nat.le_of_ble_eq_true rfl)) rfl (Nat.le_of_ble_eq_true rfl) (Nat.le_of_ble_eq_true rfl) rfl rfl (Nat.le_of_ble_eq_true rfl) rfl rfl ?_
    refine pm_R_lo pm_M175 (pc' := 1) rfl rfl rfl ?_
    refine pm_R_op pm_M175 (pc' := 2) (st' := [.int 0, .ref 41]) rfl rfl rfl ?_
    refine pm_R_put pm_M175 (pc' := 5) (fs' := [.int 0, .ref 42, .ref 43, .ref 44, .ref 45, .ref 46, .ref 47, .ref 48, .ref 49, .ref 50, .int 0, .int 0, .int 0, .int 0, .int 0, .long 0, .int 0, .int 0, .int 0, .ref 51, .ref 52, .int 0, .int 0, .int 0, .int 0, .ref 53, .int 0, .int 0, .ref 54, .ref 55, .ref 56, .int 0, .ref 57, .ref 58, .ref 59, .ref 60, .ref 61, .ref 62, .ref 63, .ref 64, .ref 65, .ref 66, .int 0, .int 0, .int 0, .ref 67, .ref 68, .int 0, .ref 69, .int 0, .int 0, .ref 70, .ref 71]) rfl rfl rfl (hh 41 (Nat.le_of_ble_eq_true rfl)) (Nat.le_of_ble_eq_true rfl) (Nat.le_of_ble_eq_true rfl) (Nat.le_of_ble_eq_true rfl) rfl (Or.inl rfl) rfl rfl ?_
    refine pm_R_lo pm_M175 (pc' := 6) rfl rfl rfl ?_
    refine pm_R_lo pm_M175 (pc' := 7) rfl rfl rfl ?_
    refine pm_R_get pm_M175 (pc' := 10) (v := .ref 43) rfl rfl rfl (Nat.le_of_ble_eq_true rfl) (Nat.le_of_ble_eq_true rfl) rfl rfl ?_
    refine pm_R_op pm_M175 (pc' := 11) (st' := [.int 0, .ref 43, .ref 41]) rfl rfl rfl ?_
    refine pm_R_iald pm_M175 (pc' := 12) (v := 0) rfl (hh 43 (Nat.le_of_ble_eq_true rfl)) (Nat.le_of_ble_eq_true rfl) rfl rfl rfl ?_
    refine pm_R_put pm_M175 (pc' := 15) (fs' := [.int 0, .ref 42, .ref 43, .ref 44, .ref 45, .ref 46, .ref 47, .ref 48, .ref 49, .ref 50, .int 0, .int 0, .int 0, .int 0, .int 0, .long 0, .int 0, .int 0, .int 0, .ref 51, .ref 52, .int 0, .int 0, .int 0, .int 0, .ref 53, .int 0, .int 0, .ref 54, .ref 55, .ref 56, .int 0, .ref 57, .ref 58, .ref 59, .ref 60, .ref 61, .ref 62, .ref 63, .ref 64, .ref 65, .ref 66, .int 0, .int 0, .int 0, .ref 67, .ref 68, .int 0, .ref 69, .int 0, .int 0, .ref 70, .ref 71]) rfl rfl rfl rfl (Nat.le_of_ble_eq_true rfl) (Nat.le_of_ble_eq_true rfl) (Nat.le_of_ble_eq_true rfl) rfl (Or.inl rfl) rfl rfl ?_
    refine pm_R_lo pm_M175 (pc' := 16) rfl rfl rfl ?_
    refine pm_R_get pm_M175 (pc' := 19) (v := .ref 43) rfl rfl rfl (Nat.le_of_ble_eq_true rfl) (Nat.le_of_ble_eq_true rfl) rfl rfl ?_
    refine pm_R_op pm_M175 (pc' := 20) (st' := [.int 0, .ref 43]) rfl rfl rfl ?_
    refine pm_R_op pm_M175 (pc' := 21) (st' := [.int 0, .int 0, .ref 43]) rfl rfl rfl ?_
    refine pm_R_iast pm_M175 (pc' := 22) rfl (hh 43 (Nat.le_of_ble_eq_true rfl)) (Nat.le_of_ble_eq_true rfl) (Nat.le_of_ble_eq_true rfl) rfl rfl ?_
    refine pm_R_lo pm_M175 (pc' := 23) rfl rfl rfl ?_
    refine pm_R_get pm_M175 (pc' := 26) (v := .ref 44) rfl rfl rfl (Nat.le_of_ble_eq_true rfl) (Nat.le_of_ble_eq_true rfl) rfl rfl ?_
    refine pm_R_op pm_M175 (pc' := 27) (st' := [.int 0, .ref 44]) rfl rfl rfl ?_
    refine pm_R_op pm_M175 (pc' := 28) (st' := [.int 0, .int 0, .ref 44]) rfl rfl rfl ?_
    refine pm_R_iast pm_M175 (pc' := 29) rfl (hh 44 (Nat.le_of_ble_eq_true rfl)) (Nat.le_of_ble_eq_true rfl) (Nat.le_of_ble_eq_true rfl) rfl rfl ?_
    refine pm_R_lo pm_M175 (pc' := 30) rfl rfl rfl ?_
    refine pm_R_get pm_M175 (pc' := 33) (v := .ref 45) rfl rfl rfl (Nat.le_of_ble_eq_true rfl) (Nat.le_of_ble_eq_true rfl) rfl rfl ?_
    refine pm_R_op pm_M175 (pc' := 34) (st' := [.int 0, .ref 45]) rfl rfl rfl ?_
    refine pm_R_op pm_M175 (pc' := 35) (st' := [.int (-1), .int 0, .ref 45]) rfl rfl rfl ?_
    refine pm_R_iast pm_M175 (pc' := 36) rfl (hh 45 (Nat.le_of_ble_eq_true rfl)) (Nat.le_of_ble_eq_true rfl) (Nat.le_of_ble_eq_true rfl) rfl rfl ?_
    refine pm_R_lo pm_M175 (pc' := 37) rfl rfl rfl ?_
    refine pm_R_op pm_M175 (pc' := 38) (st' := [.int 0, .int 0]) rfl rfl rfl ?_
    refine pm_R_op pm_M175 (pc' := 39) (st' := [.int 3, .int 0, .int 0]) rfl rfl rfl ?_
    refine pm_R_cs pm_M175 (pc' := 42) (ra := [.int 3, .int 0, .int 0]) (rest := []) (ls' := [.int 0, .int 0, .int 3]) rfl rfl (Or.inl rfl) pm_M174 rfl rfl (Nat.le_of_ble_eq_true rfl) rfl rfl ?_
    refine pm_R_lo pm_M174 (pc' := 1) rfl rfl rfl ?_
    refine pm_R_lo pm_M174 (pc' := 2) rfl rfl rfl ?_
    refine pm_R_br pm_M174 (pc' := 5) (st' := []) rfl rfl ?_
    refine pm_R_lo pm_M174 (pc' := 6) rfl rfl rfl ?_
    refine pm_R_lo pm_M174 (pc' := 7) rfl rfl rfl ?_
    refine pm_R_br pm_M174 (pc' := 10) (st' := []) rfl rfl ?_
    refine pm_R_op pm_M174 (pc' := 11) (st' := [.int 1]) rfl rfl rfl ?_
    refine pm_R_br pm_M174 (pc' := 15) rfl rfl ?_
    refine pm_R_ret pm_M174 (r := some (.int 1)) rfl rfl ?_
    show pm_R _ 175 42 [.ref 41, .int 0, .int (-1), pm_no] [.int 1] _ _
    refine pm_R_br pm_M175 (pc' := 45) (st' := []) rfl rfl ?_
    refine pm_R_lo pm_M175 (pc' := 46) rfl rfl rfl ?_
    refine pm_R_op pm_M175 (pc' := 47) (st' := [.int (-1), .int (-1)]) rfl rfl rfl ?_
    refine pm_R_br pm_M175 (pc' := 50) (st' := []) rfl rfl ?_
    refine pm_R_lo pm_M175 (pc' := 51) rfl rfl rfl ?_
    refine pm_R_get pm_M175 (pc' := 54) (v := .ref 46) rfl rfl rfl (Nat.le_of_ble_eq_true rfl) (Nat.le_of_ble_eq_true rfl) rfl rfl ?_
    refine pm_R_lo pm_M175 (pc' := 55) rfl rfl rfl ?_
    refine pm_R_iald pm_M175 (pc' := 56) (v := 0) rfl (hh 46 (Nat.le_of_ble_eq_true rfl)) (Nat.le_of_ble_eq_true rfl) rfl rfl rfl ?_
    refine pm_R_lo pm_M175 (pc' := 57) rfl rfl rfl ?_
    refine pm_R_cs pm_M175 (pc' := 60) (ra := [.int 0]) (rest := [.int 0]) (ls' := [.int 0]) rfl rfl (Or.inl rfl) pm_M176 rfl rfl (Nat.le_of_ble_eq_true rfl) rfl rfl ?_
    refine pm_R_lo pm_M176 (pc' := 1) rfl rfl rfl ?_
    refine pm_R_op pm_M176 (pc' := 2) (st' := [.int 1, .int 0]) rfl rfl rfl ?_
    refine pm_R_br pm_M176 (pc' := 9) (st' := []) rfl rfl ?_
    refine pm_R_op pm_M176 (pc' := 10) (st' := [.int 2]) rfl rfl rfl ?_
    refine pm_R_ret pm_M176 (r := some (.int 2)) rfl rfl ?_
    show pm_R _ 175 60 [.ref 41, .int 0, .int (-1), pm_no] [.int 2, .int 0] _ _
    refine pm_R_br pm_M175 (pc' := 78) (st' := []) rfl rfl ?_
    refine pm_R_lo pm_M175 (pc' := 79) rfl rfl rfl ?_
    refine pm_R_lo pm_M175 (pc' := 80) rfl rfl rfl ?_
    refine pm_R_cv pm_M175 (pc' := 83) (a := 41) (ra := [.int 0]) (rest := []) (ls' := [.ref 41, .int 0, pm_no, pm_no]) rfl rfl (Or.inl rfl) pm_M178 rfl rfl (Nat.le_of_ble_eq_true rfl) (Nat.le_of_ble_eq_true rfl) rfl rfl (Nat.le_of_ble_eq_true rfl) rfl rfl ?_
    refine pm_R_op pm_M178 (pc' := 1) (st' := [.int 0]) rfl rfl rfl ?_
    refine pm_R_lo pm_M178 (pc' := 2) (ls' := [.ref 41, .int 0, .int 0, pm_no]) (st' := []) rfl rfl rfl ?_
    refine pm_R_heq (pm_set_self (a := 51) (c := .inl (0, 152, .inl (fun _ => 0))) (hh 51 (Nat.le_of_ble_eq_true rfl))).symm ?_
    refine p1_L1 rfl rfl (Nat.le_of_ble_eq_true rfl) (fun g_10 => ?_) 152 0 _ rfl
    refine pm_R_lo pm_M178 (pc' := 23) rfl rfl rfl ?_
    refine pm_R_get pm_M178 (pc' := 26) (v := .ref 51) rfl rfl rfl (Nat.le_of_ble_eq_true rfl) (Nat.le_of_ble_eq_true rfl) rfl rfl ?_
    refine pm_R_op pm_M178 (pc' := 27) (st' := [.int 0, .ref 51]) rfl rfl rfl ?_
    refine pm_R_lo pm_M178 (pc' := 28) rfl rfl rfl ?_
    refine pm_R_op pm_M178 (pc' := 29) (st' := [.int 2, .int 0, .int 0, .ref 51]) rfl rfl rfl ?_
    refine pm_R_br pm_M178 (pc' := 36) (st' := [.int 0, .ref 51]) rfl rfl ?_
    refine pm_R_op pm_M178 (pc' := 37) (st' := [.int 0, .int 0, .ref 51]) rfl rfl rfl ?_
    refine pm_R_iast pm_M178 (pc' := 38) rfl rfl (Nat.le_of_ble_eq_true rfl) (Nat.le_of_ble_eq_true rfl) rfl rfl ?_
    refine pm_R_lo pm_M178 (pc' := 39) rfl rfl rfl ?_
    refine pm_R_op pm_M178 (pc' := 40) (st' := [.int (-1), .ref 41]) rfl rfl rfl ?_
    refine pm_R_put pm_M178 (pc' := 43) (fs' := [.int 0, .ref 42, .ref 43, .ref 44, .ref 45, .ref 46, .ref 47, .ref 48, .ref 49, .ref 50, .int 0, .int 0, .int 0, .int 0, .int 0, .long 0, .int 0, .int 0, .int 0, .ref 51, .ref 52, .int (-1), .int 0, .int 0, .int 0, .ref 53, .int 0, .int 0, .ref 54, .ref 55, .ref 56, .int 0, .ref 57, .ref 58, .ref 59, .ref 60, .ref 61, .ref 62, .ref 63, .ref 64, .ref 65, .ref 66, .int 0, .int 0, .int 0, .ref 67, .ref 68, .int 0, .ref 69, .int 0, .int 0, .ref 70, .ref 71]) rfl rfl rfl rfl (Nat.le_of_ble_eq_true rfl) (Nat.le_of_ble_eq_true rfl) (Nat.le_of_ble_eq_true rfl) rfl (Or.inl rfl) rfl rfl ?_
    refine pm_R_lo pm_M178 (pc' := 44) rfl rfl rfl ?_
    refine pm_R_op pm_M178 (pc' := 45) (st' := [.int 0, .ref 41]) rfl rfl rfl ?_
    refine pm_R_put pm_M178 (pc' := 48) (fs' := [.int 0, .ref 42, .ref 43, .ref 44, .ref 45, .ref 46, .ref 47, .ref 48, .ref 49, .ref 50, .int 0, .int 0, .int 0, .int 0, .int 0, .long 0, .int 0, .int 0, .int 0, .ref 51, .ref 52, .int (-1), .int 0, .int 0, .int 0, .ref 53, .int 0, .int 0, .ref 54, .ref 55, .ref 56, .int 0, .ref 57, .ref 58, .ref 59, .ref 60, .ref 61, .ref 62, .ref 63, .ref 64, .ref 65, .ref 66, .int 0, .int 0, .int 0, .ref 67, .ref 68, .int 0, .ref 69, .int 0, .int 0, .ref 70, .ref 71]) rfl rfl rfl rfl (Nat.le_of_ble_eq_true rfl) (Nat.le_of_ble_eq_true rfl) (Nat.le_of_ble_eq_true rfl) rfl (Or.inl rfl) rfl rfl ?_
    refine pm_R_lo pm_M178 (pc' := 49) rfl rfl rfl ?_
    refine pm_R_op pm_M178 (pc' := 50) (st' := [.int 0, .ref 41]) rfl rfl rfl ?_
    refine pm_R_put pm_M178 (pc' := 53) (fs' := [.int 0, .ref 42, .ref 43, .ref 44, .ref 45, .ref 46, .ref 47, .ref 48, .ref 49, .ref 50, .int 0, .int 0, .int 0, .int 0, .int 0, .long 0, .int 0, .int 0, .int 0, .ref 51, .ref 52, .int (-1), .int 0, .int 0, .int 0, .ref 53, .int 0, .int 0, .ref 54, .ref 55, .ref 56, .int 0, .ref 57, .ref 58, .ref 59, .ref 60, .ref 61, .ref 62, .ref 63, .ref 64, .ref 65, .ref 66, .int 0, .int 0, .int 0, .ref 67, .ref 68, .int 0, .ref 69, .int 0, .int 0, .ref 70, .ref 71]) rfl rfl rfl rfl (Nat.le_of_ble_eq_true rfl) (Nat.le_of_ble_eq_true rfl) (Nat.le_of_ble_eq_true rfl) rfl (Or.inl rfl) rfl rfl ?_
    refine pm_R_lo pm_M178 (pc' := 54) rfl rfl rfl ?_
    refine pm_R_cv pm_M178 (pc' := 57) (a := 41) (ra := []) (rest := []) (ls' := [.ref 41, pm_no, pm_no]) rfl rfl (Or.inl rfl) pm_M179 rfl rfl (Nat.le_of_ble_eq_true rfl) (Nat.le_of_ble_eq_true rfl) rfl rfl (Nat.le_of_ble_eq_true rfl) rfl rfl ?_
    refine pm_R_lo pm_M179 (pc' := 1) rfl rfl rfl ?_
    refine pm_R_cv pm_M179 (pc' := 4) (a := 41) (ra := []) (rest := []) (ls' := [.ref 41]) rfl rfl (Or.inl rfl) pm_M180 rfl rfl (Nat.le_of_ble_eq_true rfl) (Nat.le_of_ble_eq_true rfl) rfl rfl (Nat.le_of_ble_eq_true rfl) rfl rfl ?_
    refine pm_R_lo pm_M180 (pc' := 1) rfl rfl rfl ?_
    refine pm_R_get pm_M180 (pc' := 4) (v := .int 0) rfl rfl rfl (Nat.le_of_ble_eq_true rfl) (Nat.le_of_ble_eq_true rfl) rfl rfl ?_
    refine pm_R_lo pm_M180 (pc' := 5) rfl rfl rfl ?_
    refine pm_R_get pm_M180 (pc' := 8) (v := .int 0) rfl rfl rfl (Nat.le_of_ble_eq_true rfl) (Nat.le_of_ble_eq_true rfl) rfl rfl ?_
    refine pm_R_br pm_M180 (pc' := 27) (st' := []) rfl rfl ?_
    refine pm_R_op pm_M180 (pc' := 28) (st' := [.int (-1)]) rfl rfl rfl ?_
    refine pm_R_ret pm_M180 (r := some (.int (-1))) rfl rfl ?_
    show pm_R _ 179 4 [.ref 41, pm_no, pm_no] [.int (-1)] _ _
    refine pm_R_op pm_M179 (pc' := 6) (st' := [.int 10, .int (-1)]) rfl rfl rfl ?_
    refine pm_R_br pm_M179 (pc' := 9) (st' := []) rfl rfl ?_
    refine pm_R_lo pm_M179 (pc' := 10) rfl rfl rfl ?_
    refine pm_R_cv pm_M179 (pc' := 13) (a := 41) (ra := []) (rest := []) (ls' := [.ref 41]) rfl rfl (Or.inl rfl) pm_M180 rfl rfl (Nat.le_of_ble_eq_true rfl) (Nat.le_of_ble_eq_true rfl) rfl rfl (Nat.le_of_ble_eq_true rfl) rfl rfl ?_
    refine pm_R_lo pm_M180 (pc' := 1) rfl rfl rfl ?_
    refine pm_R_get pm_M180 (pc' := 4) (v := .int 0) rfl rfl rfl (Nat.le_of_ble_eq_true rfl) (Nat.le_of_ble_eq_true rfl) rfl rfl ?_
    refine pm_R_lo pm_M180 (pc' := 5) rfl rfl rfl ?_
    refine pm_R_get pm_M180 (pc' := 8) (v := .int 0) rfl rfl rfl (Nat.le_of_ble_eq_true rfl) (Nat.le_of_ble_eq_true rfl) rfl rfl ?_
    refine pm_R_br pm_M180 (pc' := 27) (st' := []) rfl rfl ?_
    refine pm_R_op pm_M180 (pc' := 28) (st' := [.int (-1)]) rfl rfl rfl ?_
    refine pm_R_ret pm_M180 (r := some (.int (-1))) rfl rfl ?_
    show pm_R _ 179 13 [.ref 41, pm_no, pm_no] [.int (-1)] _ _
    refine pm_R_op pm_M179 (pc' := 15) (st' := [.int 32, .int (-1)]) rfl rfl rfl ?_
    refine pm_R_br pm_M179 (pc' := 31) (st' := []) rfl rfl ?_
    refine pm_R_lo pm_M179 (pc' := 32) rfl rfl rfl ?_
    refine pm_R_lo pm_M179 (pc' := 33) rfl rfl rfl ?_
    refine pm_R_get pm_M179 (pc' := 36) (v := .int 0) rfl rfl rfl (Nat.le_of_ble_eq_true rfl) (Nat.le_of_ble_eq_true rfl) rfl rfl ?_
    refine pm_R_put pm_M179 (pc' := 39) (fs' := [.int 0, .ref 42, .ref 43, .ref 44, .ref 45, .ref 46, .ref 47, .ref 48, .ref 49, .ref 50, .int 0, .int 0, .int 0, .int 0, .int 0, .long 0, .int 0, .int 0, .int 0, .ref 51, .ref 52, .int (-1), .int 0, .int 0, .int 0, .ref 53, .int 0, .int 0, .ref 54, .ref 55, .ref 56, .int 0, .ref 57, .ref 58, .ref 59, .ref 60, .ref 61, .ref 62, .ref 63, .ref 64, .ref 65, .ref 66, .int 0, .int 0, .int 0, .ref 67, .ref 68, .int 0, .ref 69, .int 0, .int 0, .ref 70, .ref 71]) rfl rfl rfl rfl (Nat.le_of_ble_eq_true rfl) (Nat.le_of_ble_eq_true rfl) (Nat.le_of_ble_eq_true rfl) rfl (Or.inl rfl) rfl rfl ?_
    refine pm_R_lo pm_M179 (pc' := 40) rfl rfl rfl ?_
    refine pm_R_cv pm_M179 (pc' := 43) (a := 41) (ra := []) (rest := []) (ls' := [.ref 41]) rfl rfl (Or.inl rfl) pm_M180 rfl rfl (Nat.le_of_ble_eq_true rfl) (Nat.le_of_ble_eq_true rfl) rfl rfl (Nat.le_of_ble_eq_true rfl) rfl rfl ?_
    refine pm_R_lo pm_M180 (pc' := 1) rfl rfl rfl ?_
    refine pm_R_get pm_M180 (pc' := 4) (v := .int 0) rfl rfl rfl (Nat.le_of_ble_eq_true rfl) (Nat.le_of_ble_eq_true rfl) rfl rfl ?_
    refine pm_R_lo pm_M180 (pc' := 5) rfl rfl rfl ?_
    refine pm_R_get pm_M180 (pc' := 8) (v := .int 0) rfl rfl rfl (Nat.le_of_ble_eq_true rfl) (Nat.le_of_ble_eq_true rfl) rfl rfl ?_
    refine pm_R_br pm_M180 (pc' := 27) (st' := []) rfl rfl ?_
    refine pm_R_op pm_M180 (pc' := 28) (st' := [.int (-1)]) rfl rfl rfl ?_
    refine pm_R_ret pm_M180 (r := some (.int (-1))) rfl rfl ?_
    show pm_R _ 179 43 [.ref 41, pm_no, pm_no] [.int (-1)] _ _
    refine pm_R_lo pm_M179 (pc' := 44) (ls' := [.ref 41, .int (-1), pm_no]) (st' := []) rfl rfl rfl ?_
    refine pm_R_lo pm_M179 (pc' := 45) rfl rfl rfl ?_
    refine pm_R_op pm_M179 (pc' := 46) (st' := [.long 0, .ref 41]) rfl rfl rfl ?_
    refine pm_R_put pm_M179 (pc' := 49) (fs' := [.int 0, .ref 42, .ref 43, .ref 44, .ref 45, .ref 46, .ref 47, .ref 48, .ref 49, .ref 50, .int 0, .int 0, .int 0, .int 0, .int 0, .long 0, .int 0, .int 0, .int 0, .ref 51, .ref 52, .int (-1), .int 0, .int 0, .int 0, .ref 53, .int 0, .int 0, .ref 54, .ref 55, .ref 56, .int 0, .ref 57, .ref 58, .ref 59, .ref 60, .ref 61, .ref 62, .ref 63, .ref 64, .ref 65, .ref 66, .int 0, .int 0, .int 0, .ref 67, .ref 68, .int 0, .ref 69, .int 0, .int 0, .ref 70, .ref 71]) rfl rfl rfl rfl (Nat.le_of_ble_eq_true rfl) (Nat.le_of_ble_eq_true rfl) (Nat.le_of_ble_eq_true rfl) rfl (Or.inl rfl) rfl rfl ?_
    refine pm_R_op pm_M179 (pc' := 50) (st' := [.int 0]) rfl rfl rfl ?_
    refine pm_R_lo pm_M179 (pc' := 51) (ls' := [.ref 41, .int (-1), .int 0]) (st' := []) rfl rfl rfl ?_
    refine pm_R_lo pm_M179 (pc' := 52) rfl rfl rfl ?_
    refine pm_R_br pm_M179 (pc' := 55) (st' := []) rfl rfl ?_
    refine pm_R_lo pm_M179 (pc' := 56) rfl rfl rfl ?_
    refine pm_R_op pm_M179 (pc' := 57) (st' := [.int 0, .ref 41]) rfl rfl rfl ?_
    refine pm_R_put pm_M179 (pc' := 60) (fs' := [.int 0, .ref 42, .ref 43, .ref 44, .ref 45, .ref 46, .ref 47, .ref 48, .ref 49, .ref 50, .int 0, .int 0, .int 0, .int 0, .int 0, .long 0, .int 0, .int 0, .int 0, .ref 51, .ref 52, .int (-1), .int 0, .int 0, .int 0, .ref 53, .int 0, .int 0, .ref 54, .ref 55, .ref 56, .int 0, .ref 57, .ref 58, .ref 59, .ref 60, .ref 61, .ref 62, .ref 63, .ref 64, .ref 65, .ref 66, .int 0, .int 0, .int 0, .ref 67, .ref 68, .int 0, .ref 69, .int 0, .int 0, .ref 70, .ref 71]) rfl rfl rfl rfl (Nat.le_of_ble_eq_true rfl) (Nat.le_of_ble_eq_true rfl) (Nat.le_of_ble_eq_true rfl) rfl (Or.inl rfl) rfl rfl ?_
    refine pm_R_br pm_M179 (pc' := 266) rfl rfl ?_
    refine pm_R_ret pm_M179 (r := none) (pm_q179_2 (Nat.le_of_ble_eq_true rfl)) rfl ?_
    show pm_R _ 178 57 [.ref 41, .int 0, .int 152, pm_no] [] _ _
    refine pm_R_lo pm_M178 (pc' := 58) rfl rfl rfl ?_
    refine pm_R_op pm_M178 (pc' := 59) (st' := [.int 1, .int 0]) rfl rfl rfl ?_
    refine pm_R_br pm_M178 (pc' := 69) (st' := []) rfl rfl ?_
    refine pm_R_lo pm_M178 (pc' := 70) rfl rfl rfl ?_
    refine pm_R_lo pm_M178 (pc' := 71) rfl rfl rfl ?_
    refine pm_R_cv pm_M178 (pc' := 74) (a := 41) (ra := [.int 0]) (rest := []) (ls' := [.ref 41, .int 0, pm_no, pm_no, pm_no, pm_no]) rfl rfl (Or.inl rfl) pm_M186 rfl rfl (Nat.le_of_ble_eq_true rfl) (Nat.le_of_ble_eq_true rfl) rfl rfl (Nat.le_of_ble_eq_true rfl) rfl rfl ?_
    refine pm_R_op pm_M186 (pc' := 1) (st' := [.int 1]) rfl rfl rfl ?_
    refine pm_R_lo pm_M186 (pc' := 2) (ls' := [.ref 41, .int 0, .int 1, pm_no, pm_no, pm_no]) (st' := []) rfl rfl rfl ?_
    refine pm_R_lo pm_M186 (pc' := 3) rfl rfl rfl ?_
    refine pm_R_br pm_M186 (pc' := 6) (st' := []) rfl rfl ?_
    refine pm_R_lo pm_M186 (pc' := 7) rfl rfl rfl ?_
    refine pm_R_get pm_M186 (pc' := 10) (v := .int 0) rfl rfl rfl (Nat.le_of_ble_eq_true rfl) (Nat.le_of_ble_eq_true rfl) rfl rfl ?_
    refine pm_R_br pm_M186 (pc' := 106) (st' := []) rfl rfl ?_
    refine pm_R_lo pm_M186 (pc' := 107) rfl rfl rfl ?_
    refine pm_R_ret pm_M186 (r := some (.int 1)) rfl rfl ?_
    show pm_R _ 178 74 [.ref 41, .int 0, .int 152, pm_no] [.int 1] _ _
    refine pm_R_lo pm_M178 (pc' := 75) (ls' := [.ref 41, .int 0, .int 1, pm_no]) (st' := []) rfl rfl rfl ?_
    refine pm_R_lo pm_M178 (pc' := 76) rfl rfl rfl ?_
    refine pm_R_op pm_M178 (pc' := 77) (st' := [.int 1, .int 0]) rfl rfl rfl ?_
    refine pm_R_br pm_M178 (pc' := 97) (st' := []) rfl rfl ?_
    refine pm_R_lo pm_M178 (pc' := 98) rfl rfl rfl ?_
    refine pm_R_op pm_M178 (pc' := 99) (st' := [.int 2, .int 0]) rfl rfl rfl ?_
    refine pm_R_br pm_M178 (pc' := 119) (st' := []) rfl rfl ?_
    refine pm_R_op pm_M178 (pc' := 120) (st' := [.int 0]) (pm_q178_1 (Nat.le_of_ble_eq_true rfl)) rfl rfl ?_
    refine pm_R_lo pm_M178 (pc' := 121) (ls' := [.ref 41, .int 0, .int 1, .int 0]) (st' := []) (pm_q178_1 (Nat.le_of_ble_eq_true rfl)) rfl rfl ?_
    refine pm_R_lo pm_M178 (pc' := 122) (pm_q178_1 (Nat.le_of_ble_eq_true rfl)) rfl rfl ?_
    refine pm_R_br pm_M178 (pc' := 125) (st' := []) (pm_q178_1 (Nat.le_of_ble_eq_true rfl)) rfl ?_
    refine pm_R_lo pm_M178 (pc' := 126) (pm_q178_1 (Nat.le_of_ble_eq_true rfl)) rfl rfl ?_
    refine pm_R_get pm_M178 (pc' := 129) (v := .int 0) (pm_q178_1 (Nat.le_of_ble_eq_true rfl)) rfl rfl (Nat.le_of_ble_eq_true rfl) (Nat.le_of_ble_eq_true rfl) rfl rfl ?_
    refine pm_R_br pm_M178 (pc' := 132) (st' := []) (pm_q178_1 (Nat.le_of_ble_eq_true rfl)) rfl ?_
    refine pm_R_lo pm_M178 (pc' := 133) (pm_q178_1 (Nat.le_of_ble_eq_true rfl)) rfl rfl ?_
    refine pm_R_br pm_M178 (pc' := 145) (st' := []) (pm_q178_1 (Nat.le_of_ble_eq_true rfl)) rfl ?_
    refine pm_R_lo pm_M178 (pc' := 146) (pm_q178_1 (Nat.le_of_ble_eq_true rfl)) rfl rfl ?_
    refine pm_R_get pm_M178 (pc' := 149) (v := .ref 44) (pm_q178_1 (Nat.le_of_ble_eq_true rfl)) rfl rfl (Nat.le_of_ble_eq_true rfl) (Nat.le_of_ble_eq_true rfl) rfl rfl ?_
    refine pm_R_op pm_M178 (pc' := 150) (st' := [.int 0, .ref 44]) (pm_q178_1 (Nat.le_of_ble_eq_true rfl)) rfl rfl ?_
    refine pm_R_lo pm_M178 (pc' := 151) (pm_q178_1 (Nat.le_of_ble_eq_true rfl)) rfl rfl ?_
    refine pm_R_br pm_M178 (pc' := 154) (st' := [.int 0, .ref 44]) (pm_q178_1 (Nat.le_of_ble_eq_true rfl)) rfl ?_
    refine pm_R_lo pm_M178 (pc' := 155) (pm_q178_1 (Nat.le_of_ble_eq_true rfl)) rfl rfl ?_
    refine pm_R_get pm_M178 (pc' := 158) (v := .int 0) (pm_q178_1 (Nat.le_of_ble_eq_true rfl)) rfl rfl (Nat.le_of_ble_eq_true rfl) (Nat.le_of_ble_eq_true rfl) rfl rfl ?_
    refine pm_R_br pm_M178 (pc' := 162) (pm_q178_1 (Nat.le_of_ble_eq_true rfl)) rfl ?_
    refine pm_R_iast pm_M178 (pc' := 163) (pm_q178_1 (Nat.le_of_ble_eq_true rfl)) rfl (Nat.le_of_ble_eq_true rfl) (Nat.le_of_ble_eq_true rfl) rfl rfl ?_
    refine pm_R_lo pm_M178 (pc' := 164) (pm_q178_1 (Nat.le_of_ble_eq_true rfl)) rfl rfl ?_
    refine pm_R_get pm_M178 (pc' := 167) (v := .ref 45) (pm_q178_1 (Nat.le_of_ble_eq_true rfl)) rfl rfl (Nat.le_of_ble_eq_true rfl) (Nat.le_of_ble_eq_true rfl) rfl rfl ?_
    refine pm_R_op pm_M178 (pc' := 168) (st' := [.int 0, .ref 45]) (pm_q178_1 (Nat.le_of_ble_eq_true rfl)) rfl rfl ?_
    refine pm_R_lo pm_M178 (pc' := 169) (pm_q178_1 (Nat.le_of_ble_eq_true rfl)) rfl rfl ?_
    refine pm_R_br pm_M178 (pc' := 179) (st' := [.int 0, .ref 45]) (pm_q178_1 (Nat.le_of_ble_eq_true rfl)) rfl ?_
    refine pm_R_lo pm_M178 (pc' := 180) (pm_q178_1 (Nat.le_of_ble_eq_true rfl)) rfl rfl ?_
    refine pm_R_get pm_M178 (pc' := 183) (v := .int 0) (pm_q178_1 (Nat.le_of_ble_eq_true rfl)) rfl rfl (Nat.le_of_ble_eq_true rfl) (Nat.le_of_ble_eq_true rfl) rfl rfl ?_
    refine pm_R_br pm_M178 (pc' := 193) (st' := [.int 0, .ref 45]) (pm_q178_1 (Nat.le_of_ble_eq_true rfl)) rfl ?_
    refine pm_R_op pm_M178 (pc' := 194) (st' := [.int (-1), .int 0, .ref 45]) (pm_q178_1 (Nat.le_of_ble_eq_true rfl)) rfl rfl ?_
    refine pm_R_iast pm_M178 (pc' := 195) (pm_q178_1 (Nat.le_of_ble_eq_true rfl)) rfl (Nat.le_of_ble_eq_true rfl) (Nat.le_of_ble_eq_true rfl) rfl rfl ?_
    refine pm_R_lo pm_M178 (pc' := 196) (pm_q178_1 (Nat.le_of_ble_eq_true rfl)) rfl rfl ?_
    refine pm_R_get pm_M178 (pc' := 199) (v := .ref 44) (pm_q178_1 (Nat.le_of_ble_eq_true rfl)) rfl rfl (Nat.le_of_ble_eq_true rfl) (Nat.le_of_ble_eq_true rfl) rfl rfl ?_
    refine pm_R_op pm_M178 (pc' := 200) (st' := [.int 0, .ref 44]) (pm_q178_1 (Nat.le_of_ble_eq_true rfl)) rfl rfl ?_
    refine pm_R_iald pm_M178 (pc' := 201) (v := 0) (pm_q178_1 (Nat.le_of_ble_eq_true rfl)) rfl (Nat.le_of_ble_eq_true rfl) rfl rfl rfl ?_
    refine pm_R_br pm_M178 (pc' := 204) (st' := []) (pm_q178_1 (Nat.le_of_ble_eq_true rfl)) rfl ?_
    refine pm_R_op pm_M178 (pc' := 205) (st' := [.int 1]) (pm_q178_1 (Nat.le_of_ble_eq_true rfl)) rfl rfl ?_
    refine pm_R_br pm_M178 (pc' := 209) (pm_q178_1 (Nat.le_of_ble_eq_true rfl)) rfl ?_
    refine pm_R_ret pm_M178 (r := some (.int 1)) (pm_q178_1 (Nat.le_of_ble_eq_true rfl)) rfl ?_
    show pm_R _ 175 83 [.ref 41, .int 0, .int (-1), pm_no] [.int 1] _ _
    refine pm_R_br pm_M175 (pc' := 88) (st' := []) rfl rfl ?_
    refine pm_R_lo pm_M175 (pc' := 89) rfl rfl rfl ?_
    refine pm_R_op pm_M175 (pc' := 90) (st' := [.int (-1), .int (-1)]) rfl rfl rfl ?_
    refine pm_R_br pm_M175 (pc' := 93) (st' := []) rfl rfl ?_
    refine pm_R_lo pm_M175 (pc' := 94) rfl rfl rfl ?_
    refine pm_R_get pm_M175 (pc' := 97) (v := .ref 46) rfl rfl rfl (Nat.le_of_ble_eq_true rfl) (Nat.le_of_ble_eq_true rfl) rfl rfl ?_
    refine pm_R_lo pm_M175 (pc' := 98) rfl rfl rfl ?_
    refine pm_R_iald pm_M175 (pc' := 99) (v := 0) rfl (hh 46 (Nat.le_of_ble_eq_true rfl)) (Nat.le_of_ble_eq_true rfl) rfl rfl rfl ?_
    refine pm_R_br pm_M175 (pc' := 103) (pm_q175_1 (Nat.le_of_ble_eq_true rfl)) rfl ?_
    refine pm_R_lo pm_M175 (pc' := 104) (ls' := [.ref 41, .int 0, .int (-1), .int 0]) (st' := []) (pm_q175_1 (Nat.le_of_ble_eq_true rfl)) rfl rfl ?_
    refine pm_R_lo pm_M175 (pc' := 105) (pm_q175_1 (Nat.le_of_ble_eq_true rfl)) rfl rfl ?_
    refine pm_R_get pm_M175 (pc' := 108) (v := .ref 46) (pm_q175_1 (Nat.le_of_ble_eq_true rfl)) rfl rfl (Nat.le_of_ble_eq_true rfl) (Nat.le_of_ble_eq_true rfl) rfl rfl ?_
    refine pm_R_lo pm_M175 (pc' := 109) (pm_q175_1 (Nat.le_of_ble_eq_true rfl)) rfl rfl ?_
    refine pm_R_op pm_M175 (pc' := 110) (st' := [.int 0, .ref 46, .int 0, .ref 46]) (pm_q175_1 (Nat.le_of_ble_eq_true rfl)) rfl rfl ?_
    refine pm_R_iald pm_M175 (pc' := 111) (v := 0) (pm_q175_1 (Nat.le_of_ble_eq_true rfl)) (hh 46 (Nat.le_of_ble_eq_true rfl)) (Nat.le_of_ble_eq_true rfl) rfl rfl rfl ?_
    refine pm_R_lo pm_M175 (pc' := 112) (pm_q175_1 (Nat.le_of_ble_eq_true rfl)) rfl rfl ?_
    refine pm_R_op pm_M175 (pc' := 113) (st' := [.int (-1), .int (-1), .int 0, .int 0, .ref 46]) (pm_q175_1 (Nat.le_of_ble_eq_true rfl)) rfl rfl ?_
    refine pm_R_br pm_M175 (pc' := 116) (st' := [.int 0, .int 0, .ref 46]) (pm_q175_1 (Nat.le_of_ble_eq_true rfl)) rfl ?_
    refine pm_R_op pm_M175 (pc' := 117) (st' := [.int 1, .int 0, .int 0, .ref 46]) (pm_q175_1 (Nat.le_of_ble_eq_true rfl)) rfl rfl ?_
    refine pm_R_br pm_M175 (pc' := 121) (pm_q175_1 (Nat.le_of_ble_eq_true rfl)) rfl ?_
    refine pm_R_op pm_M175 (pc' := 122) (st' := [.int 1, .int 0, .ref 46]) (pm_q175_1 (Nat.le_of_ble_eq_true rfl)) rfl rfl ?_
    refine pm_R_iast pm_M175 (pc' := 123) (pm_q175_1 (Nat.le_of_ble_eq_true rfl)) (hh 46 (Nat.le_of_ble_eq_true rfl)) (Nat.le_of_ble_eq_true rfl) (Nat.le_of_ble_eq_true rfl) rfl rfl ?_
    refine pm_R_lo pm_M175 (pc' := 124) (pm_q175_1 (Nat.le_of_ble_eq_true rfl)) rfl rfl ?_
    refine pm_R_br pm_M175 (pc' := 152) (st' := []) (pm_q175_1 (Nat.le_of_ble_eq_true rfl)) rfl ?_
    refine pm_R_lo pm_M175 (pc' := 153) (pm_q175_1 (Nat.le_of_ble_eq_true rfl)) rfl rfl ?_
    refine pm_R_lo pm_M175 (pc' := 154) (pm_q175_1 (Nat.le_of_ble_eq_true rfl)) rfl rfl ?_
    refine pm_R_get pm_M175 (pc' := 157) (v := .ref 47) (pm_q175_1 (Nat.le_of_ble_eq_true rfl)) rfl rfl (Nat.le_of_ble_eq_true rfl) (Nat.le_of_ble_eq_true rfl) rfl rfl ?_
    refine pm_R_op pm_M175 (pc' := 159) (st' := [.int 100, .ref 47, .ref 41]) (pm_q175_1 (Nat.le_of_ble_eq_true rfl)) rfl rfl ?_
    refine pm_R_lo pm_M175 (pc' := 160) (pm_q175_1 (Nat.le_of_ble_eq_true rfl)) rfl rfl ?_
    refine pm_R_cv pm_M175 (pc' := 163) (a := 41) (ra := [.int 0, .int 100, .ref 47]) (rest := []) (ls' := [.ref 41, .ref 47, .int 100, .int 0, pm_no]) (pm_q175_1 (Nat.le_of_ble_eq_true rfl)) rfl (Or.inl rfl) pm_M193 rfl rfl (Nat.le_of_ble_eq_true rfl) (Nat.le_of_ble_eq_true rfl) rfl rfl (Nat.le_of_ble_eq_true rfl) rfl rfl ?_
    refine pm_R_op pm_M193 (pc' := 1) (st' := [.int 0]) rfl rfl rfl ?_
    refine pm_R_lo pm_M193 (pc' := 3) (ls' := [.ref 41, .ref 47, .int 100, .int 0, .int 0]) (st' := []) rfl rfl rfl ?_
    refine pm_R_heq (pm_set_self (a := 47) (c := .inl (0, 800, .inl (fun _ => 0))) (hh 47 (Nat.le_of_ble_eq_true rfl))).symm ?_
    refine p1_L2 (a := 47) (w := 100) (N := 800) rfl rfl rfl (Nat.le_of_ble_eq_true rfl) (Nat.le_of_ble_eq_true rfl) (Nat.le_of_ble_eq_true rfl) (by decide) (by decide) (by decide) (by decide) (by decide) (fun g_11 => ?_) 100 0 _ rfl
    show pm_R _ 175 163 [.ref 41, .int 0, .int (-1), .int 0] [] _ _
    refine pm_R_br pm_M175 (pc' := 206) (pm_q175_1 (Nat.le_of_ble_eq_true rfl)) rfl ?_
    refine pm_R_lo pm_M175 (pc' := 207) (pm_q175_1 (Nat.le_of_ble_eq_true rfl)) rfl rfl ?_
    refine pm_R_ret pm_M175 (r := some (.int 0)) (pm_q175_1 (Nat.le_of_ble_eq_true rfl)) rfl ?_
    show pm_R _ 0 334 [.ref 0, .ref 16, .ref 41, .int 0] [.int 0, .int 0] _ _
    refine pm_R_br pm_M0 (pc' := 2121) (st' := []) (pm_q0_2 (Nat.le_of_ble_eq_true rfl)) rfl ?_
    exact p1_tail (hh 0 (Nat.le_of_ble_eq_true rfl)) (Nat.le_of_ble_eq_true rfl) (Nat.le_of_ble_eq_true rfl) (Nat.le_of_ble_eq_true rfl)
set_option maxRecDepth 100000 in
set_option maxHeartbeats 40000000 in
theorem p1_c2_eq1 (xs : Nat → Int32) (f : Nat → pm_E) (hh : ∀ i, i < 72 → f i = pm_fF 7 xs i) (x0 x1 x2 x3 x4 x5 x6 : Int32) (hx0 : xs 0 = x0) (hx1 : xs 1 = x1) (hx2 : xs 2 = x2) (hx3 : xs 3 = x3) (hx4 : xs 4 = x4) (hx5 : xs 5 = x5) (hx6 : xs 6 = x6) (hv : x1 = 1) : pm_R 100 0 306 [.ref 0, .ref 16, .ref 41, .int 0] [] (72, 52657, f) p1_Q := by
  subst hv
  refine pm_R_lo pm_M0 (pc' := 307) (pm_q0_1 (Nat.le_of_ble_eq_true rfl)) rfl rfl ?_
  refine pm_R_lo pm_M0 (pc' := 308) (pm_q0_1 (Nat.le_of_ble_eq_true rfl)) rfl rfl ?_
  refine pm_R_lo pm_M0 (pc' := 309) (pm_q0_1 (Nat.le_of_ble_eq_true rfl)) rfl rfl ?_
  refine pm_R_op pm_M0 (pc' := 310) (st' := [.int 1, .int 0, .ref 0, .ref 16]) (pm_q0_1 (Nat.le_of_ble_eq_true rfl)) rfl rfl ?_
  refine pm_R_op pm_M0 (pc' := 311) (st' := [.int 1, .ref 0, .ref 16]) (pm_q0_1 (Nat.le_of_ble_eq_true rfl)) rfl rfl ?_
  refine pm_R_iald pm_M0 (pc' := 312) (v := 1) (pm_q0_1 (Nat.le_of_ble_eq_true rfl)) (hh 0 (Nat.le_of_ble_eq_true rfl)) (Nat.le_of_ble_eq_true rfl) rfl hx1 rfl ?_
  refine pm_R_lo pm_M0 (pc' := 313) (pm_q0_1 (Nat.le_of_ble_eq_true rfl)) rfl rfl ?_
  refine pm_R_lo pm_M0 (pc' := 314) (pm_q0_1 (Nat.le_of_ble_eq_true rfl)) rfl rfl ?_
  refine pm_R_op pm_M0 (pc' := 315) (st' := [.int 2, .int 0, .ref 0, .int 1, .ref 16]) (pm_q0_1 (Nat.le_of_ble_eq_true rfl)) rfl rfl ?_
  refine pm_R_op pm_M0 (pc' := 316) (st' := [.int 2, .ref 0, .int 1, .ref 16]) (pm_q0_1 (Nat.le_of_ble_eq_true rfl)) rfl rfl ?_
  refine pm_R_iald pm_M0 (pc' := 317) (v := x2) (pm_q0_1 (Nat.le_of_ble_eq_true rfl)) (hh 0 (Nat.le_of_ble_eq_true rfl)) (Nat.le_of_ble_eq_true rfl) rfl hx2 rfl ?_
  refine pm_R_cv pm_M0 (pc' := 320) (a := 16) (ra := [.int x2, .int 1]) (rest := []) (ls' := [.ref 16, .int 1, .int x2, pm_no, pm_no, pm_no, pm_no]) (pm_q0_1 (Nat.le_of_ble_eq_true rfl)) rfl (Or.inl rfl) pm_M10 (hh 16 (Nat.le_of_ble_eq_true rfl)) rfl (Nat.le_of_ble_eq_true rfl) (Nat.le_of_ble_eq_true rfl) rfl rfl (Nat.le_of_ble_eq_true rfl) rfl rfl ?_
  refine pm_R_lo pm_M10 (pc' := 1) rfl rfl rfl ?_
  refine pm_R_get pm_M10 (pc' := 4) (v := .ref 17) rfl rfl (hh 16 (Nat.le_of_ble_eq_true rfl)) (Nat.le_of_ble_eq_true rfl) (Nat.le_of_ble_eq_true rfl) rfl rfl ?_
  refine pm_R_get pm_M10 (pc' := 7) (v := .int 0) rfl rfl (hh 17 (Nat.le_of_ble_eq_true rfl)) (Nat.le_of_ble_eq_true rfl) (Nat.le_of_ble_eq_true rfl) rfl rfl ?_
  refine pm_R_lo pm_M10 (pc' := 8) (ls' := [.ref 16, .int 1, .int x2, .int 0, pm_no, pm_no, pm_no]) (st' := []) rfl rfl rfl ?_
  refine pm_R_lo pm_M10 (pc' := 9) rfl rfl rfl ?_
  refine pm_R_get pm_M10 (pc' := 12) (v := .ref 17) rfl rfl (hh 16 (Nat.le_of_ble_eq_true rfl)) (Nat.le_of_ble_eq_true rfl) (Nat.le_of_ble_eq_true rfl) rfl rfl ?_
  refine pm_R_op pm_M10 (pc' := 13) (st' := [.int 0, .ref 17]) rfl rfl rfl ?_
  refine pm_R_put pm_M10 (pc' := 16) (fs' := [.ref 18, .int 0, .int 0, .int (-1), .ref 19, .ref 20, .ref 21, .ref 22, .ref 23]) rfl rfl rfl (hh 17 (Nat.le_of_ble_eq_true rfl)) (Nat.le_of_ble_eq_true rfl) (Nat.le_of_ble_eq_true rfl) (Nat.le_of_ble_eq_true rfl) rfl (Or.inl rfl) rfl rfl ?_
  refine pm_R_lo pm_M10 (pc' := 17) rfl rfl rfl ?_
  refine pm_R_get pm_M10 (pc' := 20) (v := .ref 17) rfl rfl (hh 16 (Nat.le_of_ble_eq_true rfl)) (Nat.le_of_ble_eq_true rfl) (Nat.le_of_ble_eq_true rfl) rfl rfl ?_
  refine pm_R_op pm_M10 (pc' := 21) (st' := [.int 0, .ref 17]) rfl rfl rfl ?_
  refine pm_R_put pm_M10 (pc' := 24) (fs' := [.ref 18, .int 0, .int 0, .int (-1), .ref 19, .ref 20, .ref 21, .ref 22, .ref 23]) rfl rfl rfl rfl (Nat.le_of_ble_eq_true rfl) (Nat.le_of_ble_eq_true rfl) (Nat.le_of_ble_eq_true rfl) rfl (Or.inl rfl) rfl rfl ?_
  refine pm_R_lo pm_M10 (pc' := 25) rfl rfl rfl ?_
  refine pm_R_get pm_M10 (pc' := 28) (v := .ref 17) rfl rfl (hh 16 (Nat.le_of_ble_eq_true rfl)) (Nat.le_of_ble_eq_true rfl) (Nat.le_of_ble_eq_true rfl) rfl rfl ?_
  refine pm_R_op pm_M10 (pc' := 29) (st' := [.int (-1), .ref 17]) rfl rfl rfl ?_
  refine pm_R_put pm_M10 (pc' := 32) (fs' := [.ref 18, .int 0, .int 0, .int (-1), .ref 19, .ref 20, .ref 21, .ref 22, .ref 23]) rfl rfl rfl rfl (Nat.le_of_ble_eq_true rfl) (Nat.le_of_ble_eq_true rfl) (Nat.le_of_ble_eq_true rfl) rfl (Or.inl rfl) rfl rfl ?_
  refine pm_R_lo pm_M10 (pc' := 33) rfl rfl rfl ?_
  refine pm_R_br pm_M10 (pc' := 36) (st' := []) rfl rfl ?_
  refine pm_R_lo pm_M10 (pc' := 37) rfl rfl rfl ?_
  refine pm_R_op pm_M10 (pc' := 38) (st' := [.int 4, .int 1]) rfl rfl rfl ?_
  refine pm_R_br pm_M10 (pc' := 44) (st' := []) rfl rfl ?_
  refine pm_R_lo pm_M10 (pc' := 45) rfl rfl rfl ?_
  refine pm_R_get pm_M10 (pc' := 48) (v := .ref 17) rfl rfl (hh 16 (Nat.le_of_ble_eq_true rfl)) (Nat.le_of_ble_eq_true rfl) (Nat.le_of_ble_eq_true rfl) rfl rfl ?_
  refine pm_R_get pm_M10 (pc' := 51) (v := .ref 23) rfl rfl rfl (Nat.le_of_ble_eq_true rfl) (Nat.le_of_ble_eq_true rfl) rfl rfl ?_
  refine pm_R_lo pm_M10 (pc' := 52) rfl rfl rfl ?_
  refine pm_R_iald pm_M10 (pc' := 53) (v := 0) rfl (hh 23 (Nat.le_of_ble_eq_true rfl)) (Nat.le_of_ble_eq_true rfl) rfl rfl rfl ?_
  refine pm_R_lo pm_M10 (pc' := 55) (ls' := [.ref 16, .int 1, .int x2, .int 0, .int 0, pm_no, pm_no]) (st' := []) rfl rfl rfl ?_
  refine pm_R_lo pm_M10 (pc' := 56) rfl rfl rfl ?_
  refine pm_R_op pm_M10 (pc' := 57) (st' := [.int (-1), .int x2]) rfl rfl rfl ?_
  refine pm_R_icmp pm_M10 (t := 64) (pc' := 60) rfl rfl rfl (fun c_1 => ?_) (fun c_1 => ?_)
  · refine pm_R_op pm_M10 (pc' := 65) (st' := [.int 0]) rfl rfl rfl ?_
    refine pm_R_lo pm_M10 (pc' := 67) (ls' := [.ref 16, .int 1, .int x2, .int 0, .int 0, .int 0, pm_no]) (st' := []) rfl rfl rfl ?_
    refine pm_R_lo pm_M10 (pc' := 69) rfl rfl rfl ?_
    refine pm_R_br pm_M10 (pc' := 85) (st' := []) rfl rfl ?_
    refine pm_R_lo pm_M10 (pc' := 86) rfl rfl rfl ?_
    refine pm_R_ifc pm_M10 (t := 95) (pc' := 89) rfl rfl rfl (fun c_2 => ?_) (fun c_2 => ?_)
    · refine pm_R_op pm_M10 (pc' := 97) (st' := [.int (-2)]) rfl rfl rfl ?_
      refine pm_R_ret pm_M10 (r := some (.int (-2))) rfl rfl ?_
      show pm_R _ 0 320 [.ref 0, .ref 16, .ref 41, .int 0] [.int (-2)] _ _
      refine pm_R_lo pm_M0 (pc' := 321) (pm_q0_1 (Nat.le_of_ble_eq_true rfl)) rfl rfl ?_
      refine pm_R_lo pm_M0 (pc' := 322) (pm_q0_1 (Nat.le_of_ble_eq_true rfl)) rfl rfl ?_
      refine pm_R_lo pm_M0 (pc' := 323) (pm_q0_1 (Nat.le_of_ble_eq_true rfl)) rfl rfl ?_
      refine pm_R_op pm_M0 (pc' := 324) (st' := [.int 1, .int 0, .ref 0, .ref 41, .int (-2)]) (pm_q0_1 (Nat.le_of_ble_eq_true rfl)) rfl rfl ?_
      refine pm_R_op pm_M0 (pc' := 325) (st' := [.int 1, .ref 0, .ref 41, .int (-2)]) (pm_q0_1 (Nat.le_of_ble_eq_true rfl)) rfl rfl ?_
      refine pm_R_iald pm_M0 (pc' := 326) (v := 1) (pm_q0_1 (Nat.le_of_ble_eq_true rfl)) (hh 0 (Nat.le_of_ble_eq_true rfl)) (Nat.le_of_ble_eq_true rfl) rfl hx1 rfl ?_
      refine pm_R_lo pm_M0 (pc' := 327) (pm_q0_1 (Nat.le_of_ble_eq_true rfl)) rfl rfl ?_
      refine pm_R_lo pm_M0 (pc' := 328) (pm_q0_1 (Nat.le_of_ble_eq_true rfl)) rfl rfl ?_
      refine pm_R_op pm_M0 (pc' := 329) (st' := [.int 2, .int 0, .ref 0, .int 1, .ref 41, .int (-2)]) (pm_q0_1 (Nat.le_of_ble_eq_true rfl)) rfl rfl ?_
      refine pm_R_op pm_M0 (pc' := 330) (st' := [.int 2, .ref 0, .int 1, .ref 41, .int (-2)]) (pm_q0_1 (Nat.le_of_ble_eq_true rfl)) rfl rfl ?_
      refine pm_R_iald pm_M0 (pc' := 331) (v := x2) (pm_q0_1 (Nat.le_of_ble_eq_true rfl)) (hh 0 (Nat.le_of_ble_eq_true rfl)) (Nat.le_of_ble_eq_true rfl) rfl hx2 rfl ?_
      refine pm_R_cv pm_M0 (pc' := 334) (a := 41) (ra := [.int x2, .int 1]) (rest := [.int (-2)]) (ls' := [.ref 41, .int 1, .int x2, pm_no]) (pm_q0_1 (Nat.le_of_ble_eq_true rfl)) rfl (Or.inl rfl) pm_M175 (hh 41 (Nat.le_of_ble_eq_true rfl)) rfl (Nat.le_of_ble_eq_true rfl) (Nat.le_of_ble_eq_true rfl) rfl rfl (Nat.le_of_ble_eq_true rfl) rfl rfl ?_
      refine pm_R_lo pm_M175 (pc' := 1) rfl rfl rfl ?_
      refine pm_R_op pm_M175 (pc' := 2) (st' := [.int 0, .ref 41]) rfl rfl rfl ?_
      refine pm_R_put pm_M175 (pc' := 5) (fs' := [.int 0, .ref 42, .ref 43, .ref 44, .ref 45, .ref 46, .ref 47, .ref 48, .ref 49, .ref 50, .int 0, .int 0, .int 0, .int 0, .int 0, .long 0, .int 0, .int 0, .int 0, .ref 51, .ref 52, .int 0, .int 0, .int 0, .int 0, .ref 53, .int 0, .int 0, .ref 54, .ref 55, .ref 56, .int 0, .ref 57, .ref 58, .ref 59, .ref 60, .ref 61, .ref 62, .ref 63, .ref 64, .ref 65, .ref 66, .int 0, .int 0, .int 0, .ref 67, .ref 68, .int 0, .ref 69, .int 0, .int 0, .ref 70, .ref 71]) rfl rfl rfl (hh 41 (Nat.le_of_ble_eq_true rfl)) (Nat.le_of_ble_eq_true rfl) (Nat.le_of_ble_eq_true rfl) (Nat.le_of_ble_eq_true rfl) rfl (Or.inl rfl) rfl rfl ?_
      refine pm_R_lo pm_M175 (pc' := 6) rfl rfl rfl ?_
      refine pm_R_lo pm_M175 (pc' := 7) rfl rfl rfl ?_
      refine pm_R_get pm_M175 (pc' := 10) (v := .ref 43) rfl rfl rfl (Nat.le_of_ble_eq_true rfl) (Nat.le_of_ble_eq_true rfl) rfl rfl ?_
      refine pm_R_op pm_M175 (pc' := 11) (st' := [.int 0, .ref 43, .ref 41]) rfl rfl rfl ?_
      refine pm_R_iald pm_M175 (pc' := 12) (v := 0) rfl (hh 43 (Nat.le_of_ble_eq_true rfl)) (Nat.le_of_ble_eq_true rfl) rfl rfl rfl ?_
      refine pm_R_put pm_M175 (pc' := 15) (fs' := [.int 0, .ref 42, .ref 43, .ref 44, .ref 45, .ref 46, .ref 47, .ref 48, .ref 49, .ref 50, .int 0, .int 0, .int 0, .int 0, .int 0, .long 0, .int 0, .int 0, .int 0, .ref 51, .ref 52, .int 0, .int 0, .int 0, .int 0, .ref 53, .int 0, .int 0, .ref 54, .ref 55, .ref 56, .int 0, .ref 57, .ref 58, .ref 59, .ref 60, .ref 61, .ref 62, .ref 63, .ref 64, .ref 65, .ref 66, .int 0, .int 0, .int 0, .ref 67, .ref 68, .int 0, .ref 69, .int 0, .int 0, .ref 70, .ref 71]) rfl rfl rfl rfl (Nat.le_of_ble_eq_true rfl) (Nat.le_of_ble_eq_true rfl) (Nat.le_of_ble_eq_true rfl) rfl (Or.inl rfl) rfl rfl ?_
      refine pm_R_lo pm_M175 (pc' := 16) rfl rfl rfl ?_
      refine pm_R_get pm_M175 (pc' := 19) (v := .ref 43) rfl rfl rfl (Nat.le_of_ble_eq_true rfl) (Nat.le_of_ble_eq_true rfl) rfl rfl ?_
      refine pm_R_op pm_M175 (pc' := 20) (st' := [.int 0, .ref 43]) rfl rfl rfl ?_
      refine pm_R_op pm_M175 (pc' := 21) (st' := [.int 0, .int 0, .ref 43]) rfl rfl rfl ?_
      refine pm_R_iast pm_M175 (pc' := 22) rfl (hh 43 (Nat.le_of_ble_eq_true rfl)) (Nat.le_of_ble_eq_true rfl) (Nat.le_of_ble_eq_true rfl) rfl rfl ?_
      refine pm_R_lo pm_M175 (pc' := 23) rfl rfl rfl ?_
      refine pm_R_get pm_M175 (pc' := 26) (v := .ref 44) rfl rfl rfl (Nat.le_of_ble_eq_true rfl) (Nat.le_of_ble_eq_true rfl) rfl rfl ?_
      refine pm_R_op pm_M175 (pc' := 27) (st' := [.int 0, .ref 44]) rfl rfl rfl ?_
      refine pm_R_op pm_M175 (pc' := 28) (st' := [.int 0, .int 0, .ref 44]) rfl rfl rfl ?_
      refine pm_R_iast pm_M175 (pc' := 29) rfl (hh 44 (Nat.le_of_ble_eq_true rfl)) (Nat.le_of_ble_eq_true rfl) (Nat.le_of_ble_eq_true rfl) rfl rfl ?_
      refine pm_R_lo pm_M175 (pc' := 30) rfl rfl rfl ?_
      refine pm_R_get pm_M175 (pc' := 33) (v := .ref 45) rfl rfl rfl (Nat.le_of_ble_eq_true rfl) (Nat.le_of_ble_eq_true rfl) rfl rfl ?_
      refine pm_R_op pm_M175 (pc' := 34) (st' := [.int 0, .ref 45]) rfl rfl rfl ?_
      refine pm_R_op pm_M175 (pc' := 35) (st' := [.int (-1), .int 0, .ref 45]) rfl rfl rfl ?_
      refine pm_R_iast pm_M175 (pc' := 36) rfl (hh 45 (Nat.le_of_ble_eq_true rfl)) (Nat.le_of_ble_eq_true rfl) (Nat.le_of_ble_eq_true rfl) rfl rfl ?_
      refine pm_R_lo pm_M175 (pc' := 37) rfl rfl rfl ?_
      refine pm_R_op pm_M175 (pc' := 38) (st' := [.int 0, .int 1]) rfl rfl rfl ?_
      refine pm_R_op pm_M175 (pc' := 39) (st' := [.int 3, .int 0, .int 1]) rfl rfl rfl ?_
      refine pm_R_cs pm_M175 (pc' := 42) (ra := [.int 3, .int 0, .int 1]) (rest := []) (ls' := [.int 1, .int 0, .int 3]) rfl rfl (Or.inl rfl) pm_M174 rfl rfl (Nat.le_of_ble_eq_true rfl) rfl rfl ?_
      refine pm_R_lo pm_M174 (pc' := 1) rfl rfl rfl ?_
      refine pm_R_lo pm_M174 (pc' := 2) rfl rfl rfl ?_
      refine pm_R_br pm_M174 (pc' := 5) (st' := []) rfl rfl ?_
      refine pm_R_lo pm_M174 (pc' := 6) rfl rfl rfl ?_
      refine pm_R_lo pm_M174 (pc' := 7) rfl rfl rfl ?_
      refine pm_R_br pm_M174 (pc' := 10) (st' := []) rfl rfl ?_
      refine pm_R_op pm_M174 (pc' := 11) (st' := [.int 1]) rfl rfl rfl ?_
      refine pm_R_br pm_M174 (pc' := 15) rfl rfl ?_
      refine pm_R_ret pm_M174 (r := some (.int 1)) rfl rfl ?_
      show pm_R _ 175 42 [.ref 41, .int 1, .int x2, pm_no] [.int 1] _ _
      refine pm_R_br pm_M175 (pc' := 45) (st' := []) rfl rfl ?_
      refine pm_R_lo pm_M175 (pc' := 46) rfl rfl rfl ?_
      refine pm_R_op pm_M175 (pc' := 47) (st' := [.int (-1), .int x2]) rfl rfl rfl ?_
      refine pm_R_icmp pm_M175 (t := 66) (pc' := 50) rfl rfl rfl (fun c_3 => ?_) (fun c_3 => by exact absurd c_1 c_3)
      refine pm_R_lo pm_M175 (pc' := 67) rfl rfl rfl ?_
      refine pm_R_lo pm_M175 (pc' := 68) rfl rfl rfl ?_
      refine pm_R_lo pm_M175 (pc' := 69) rfl rfl rfl ?_
      refine pm_R_cv pm_M175 (pc' := 72) (a := 41) (ra := [.int x2, .int 1]) (rest := []) (ls' := [.ref 41, .int 1, .int x2]) rfl rfl (Or.inl rfl) pm_M177 rfl rfl (Nat.le_of_ble_eq_true rfl) (Nat.le_of_ble_eq_true rfl) rfl rfl (Nat.le_of_ble_eq_true rfl) rfl rfl ?_
      refine pm_R_lo pm_M177 (pc' := 1) rfl rfl rfl ?_
      refine pm_R_op pm_M177 (pc' := 2) (st' := [.int 0, .int x2]) rfl rfl rfl ?_
      refine pm_R_lo pm_M177 (pc' := 3) rfl rfl rfl ?_
      refine pm_R_get pm_M177 (pc' := 6) (v := .ref 46) rfl rfl rfl (Nat.le_of_ble_eq_true rfl) (Nat.le_of_ble_eq_true rfl) rfl rfl ?_
      refine pm_R_lo pm_M177 (pc' := 7) rfl rfl rfl ?_
      refine pm_R_iald pm_M177 (pc' := 8) (v := 0) rfl (hh 46 (Nat.le_of_ble_eq_true rfl)) (Nat.le_of_ble_eq_true rfl) rfl rfl rfl ?_
      refine pm_R_op pm_M177 (pc' := 9) (st' := [.int 1, .int 0, .int 0, .int x2]) rfl rfl rfl ?_
      refine pm_R_op pm_M177 (pc' := 10) (st' := [.int (-1), .int 0, .int x2]) rfl rfl rfl ?_
      refine pm_R_cs pm_M177 (pc' := 13) (ra := [.int (-1), .int 0, .int x2]) (rest := []) (ls' := [.int x2, .int 0, .int (-1)]) rfl rfl (Or.inl rfl) pm_M174 rfl rfl (Nat.le_of_ble_eq_true rfl) rfl rfl ?_
      refine pm_R_lo pm_M174 (pc' := 1) rfl rfl rfl ?_
      refine pm_R_lo pm_M174 (pc' := 2) rfl rfl rfl ?_
      refine pm_R_icmp pm_M174 (t := 14) (pc' := 5) rfl rfl rfl (fun c_4 => ?_) (fun c_4 => by exact absurd c_2 c_4)
      refine pm_R_op pm_M174 (pc' := 15) (st' := [.int 0]) rfl rfl rfl ?_
      refine pm_R_ret pm_M174 (r := some (.int 0)) rfl rfl ?_
      show pm_R _ 177 13 [.ref 41, .int 1, .int x2] [.int 0] _ _
      refine pm_R_ret pm_M177 (r := some (.int 0)) rfl rfl ?_
      show pm_R _ 175 72 [.ref 41, .int 1, .int x2, pm_no] [.int 0] _ _
      refine pm_R_br pm_M175 (pc' := 75) (st' := []) rfl rfl ?_
      refine pm_R_op pm_M175 (pc' := 77) (st' := [.int (-2)]) rfl rfl rfl ?_
      refine pm_R_ret pm_M175 (r := some (.int (-2))) rfl rfl ?_
      show pm_R _ 0 334 [.ref 0, .ref 16, .ref 41, .int 0] [.int (-2), .int (-2)] _ _
      refine pm_R_br pm_M0 (pc' := 2121) (st' := []) (pm_q0_2 (Nat.le_of_ble_eq_true rfl)) rfl ?_
      exact p1_tail (hh 0 (Nat.le_of_ble_eq_true rfl)) (Nat.le_of_ble_eq_true rfl) (Nat.le_of_ble_eq_true rfl) (Nat.le_of_ble_eq_true rfl)
    · refine pm_R_lo pm_M10 (pc' := 90) rfl rfl rfl ?_
      refine pm_R_lo pm_M10 (pc' := 92) rfl rfl rfl ?_
      refine pm_R_icmp pm_M10 (t := 98) (pc' := 95) rfl rfl rfl (fun c_5 => by exact absurd c_5 c_2) (fun c_5 => ?_)
      refine pm_R_op pm_M10 (pc' := 97) (st' := [.int (-2)]) rfl rfl rfl ?_
      refine pm_R_ret pm_M10 (r := some (.int (-2))) rfl rfl ?_
      show pm_R _ 0 320 [.ref 0, .ref 16, .ref 41, .int 0] [.int (-2)] _ _
      refine pm_R_lo pm_M0 (pc' := 321) (pm_q0_1 (Nat.le_of_ble_eq_true rfl)) rfl rfl ?_
      refine pm_R_lo pm_M0 (pc' := 322) (pm_q0_1 (Nat.le_of_ble_eq_true rfl)) rfl rfl ?_
      refine pm_R_lo pm_M0 (pc' := 323) (pm_q0_1 (Nat.le_of_ble_eq_true rfl)) rfl rfl ?_
      refine pm_R_op pm_M0 (pc' := 324) (st' := [.int 1, .int 0, .ref 0, .ref 41, .int (-2)]) (pm_q0_1 (Nat.le_of_ble_eq_true rfl)) rfl rfl ?_
      refine pm_R_op pm_M0 (pc' := 325) (st' := [.int 1, .ref 0, .ref 41, .int (-2)]) (pm_q0_1 (Nat.le_of_ble_eq_true rfl)) rfl rfl ?_
      refine pm_R_iald pm_M0 (pc' := 326) (v := 1) (pm_q0_1 (Nat.le_of_ble_eq_true rfl)) (hh 0 (Nat.le_of_ble_eq_true rfl)) (Nat.le_of_ble_eq_true rfl) rfl hx1 rfl ?_
      refine pm_R_lo pm_M0 (pc' := 327) (pm_q0_1 (Nat.le_of_ble_eq_true rfl)) rfl rfl ?_
      refine pm_R_lo pm_M0 (pc' := 328) (pm_q0_1 (Nat.le_of_ble_eq_true rfl)) rfl rfl ?_
      refine pm_R_op pm_M0 (pc' := 329) (st' := [.int 2, .int 0, .ref 0, .int 1, .ref 41, .int (-2)]) (pm_q0_1 (Nat.le_of_ble_eq_true rfl)) rfl rfl ?_
      refine pm_R_op pm_M0 (pc' := 330) (st' := [.int 2, .ref 0, .int 1, .ref 41, .int (-2)]) (pm_q0_1 (Nat.le_of_ble_eq_true rfl)) rfl rfl ?_
      refine pm_R_iald pm_M0 (pc' := 331) (v := x2) (pm_q0_1 (Nat.le_of_ble_eq_true rfl)) (hh 0 (Nat.le_of_ble_eq_true rfl)) (Nat.le_of_ble_eq_true rfl) rfl hx2 rfl ?_
      refine pm_R_cv pm_M0 (pc' := 334) (a := 41) (ra := [.int x2, .int 1]) (rest := [.int (-2)]) (ls' := [.ref 41, .int 1, .int x2, pm_no]) (pm_q0_1 (Nat.le_of_ble_eq_true rfl)) rfl (Or.inl rfl) pm_M175 (hh 41 (Nat.le_of_ble_eq_true rfl)) rfl (Nat.le_of_ble_eq_true rfl) (Nat.le_of_ble_eq_true rfl) rfl rfl (Nat.le_of_ble_eq_true rfl) rfl rfl ?_
      refine pm_R_lo pm_M175 (pc' := 1) rfl rfl rfl ?_
      refine pm_R_op pm_M175 (pc' := 2) (st' := [.int 0, .ref 41]) rfl rfl rfl ?_
      refine pm_R_put pm_M175 (pc' := 5) (fs' := [.int 0, .ref 42, .ref 43, .ref 44, .ref 45, .ref 46, .ref 47, .ref 48, .ref 49, .ref 50, .int 0, .int 0, .int 0, .int 0, .int 0, .long 0, .int 0, .int 0, .int 0, .ref 51, .ref 52, .int 0, .int 0, .int 0, .int 0, .ref 53, .int 0, .int 0, .ref 54, .ref 55, .ref 56, .int 0, .ref 57, .ref 58, .ref 59, .ref 60, .ref 61, .ref 62, .ref 63, .ref 64, .ref 65, .ref 66, .int 0, .int 0, .int 0, .ref 67, .ref 68, .int 0, .ref 69, .int 0, .int 0, .ref 70, .ref 71]) rfl rfl rfl (hh 41 (Nat.le_of_ble_eq_true rfl)) (Nat.le_of_ble_eq_true rfl) (Nat.le_of_ble_eq_true rfl) (Nat.le_of_ble_eq_true rfl) rfl (Or.inl rfl) rfl rfl ?_
      refine pm_R_lo pm_M175 (pc' := 6) rfl rfl rfl ?_
      refine pm_R_lo pm_M175 (pc' := 7) rfl rfl rfl ?_
      refine pm_R_get pm_M175 (pc' := 10) (v := .ref 43) rfl rfl rfl (Nat.le_of_ble_eq_true rfl) (Nat.le_of_ble_eq_true rfl) rfl rfl ?_
      refine pm_R_op pm_M175 (pc' := 11) (st' := [.int 0, .ref 43, .ref 41]) rfl rfl rfl ?_
      refine pm_R_iald pm_M175 (pc' := 12) (v := 0) rfl (hh 43 (Nat.le_of_ble_eq_true rfl)) (Nat.le_of_ble_eq_true rfl) rfl rfl rfl ?_
      refine pm_R_put pm_M175 (pc' := 15) (fs' := [.int 0, .ref 42, .ref 43, .ref 44, .ref 45, .ref 46, .ref 47, .ref 48, .ref 49, .ref 50, .int 0, .int 0, .int 0, .int 0, .int 0, .long 0, .int 0, .int 0, .int 0, .ref 51, .ref 52, .int 0, .int 0, .int 0, .int 0, .ref 53, .int 0, .int 0, .ref 54, .ref 55, .ref 56, .int 0, .ref 57, .ref 58, .ref 59, .ref 60, .ref 61, .ref 62, .ref 63, .ref 64, .ref 65, .ref 66, .int 0, .int 0, .int 0, .ref 67, .ref 68, .int 0, .ref 69, .int 0, .int 0, .ref 70, .ref 71]) rfl rfl rfl rfl (Nat.le_of_ble_eq_true rfl) (Nat.le_of_ble_eq_true rfl) (Nat.le_of_ble_eq_true rfl) rfl (Or.inl rfl) rfl rfl ?_
      refine pm_R_lo pm_M175 (pc' := 16) rfl rfl rfl ?_
      refine pm_R_get pm_M175 (pc' := 19) (v := .ref 43) rfl rfl rfl (Nat.le_of_ble_eq_true rfl) (Nat.le_of_ble_eq_true rfl) rfl rfl ?_
      refine pm_R_op pm_M175 (pc' := 20) (st' := [.int 0, .ref 43]) rfl rfl rfl ?_
      refine pm_R_op pm_M175 (pc' := 21) (st' := [.int 0, .int 0, .ref 43]) rfl rfl rfl ?_
      refine pm_R_iast pm_M175 (pc' := 22) rfl (hh 43 (Nat.le_of_ble_eq_true rfl)) (Nat.le_of_ble_eq_true rfl) (Nat.le_of_ble_eq_true rfl) rfl rfl ?_
      refine pm_R_lo pm_M175 (pc' := 23) rfl rfl rfl ?_
      refine pm_R_get pm_M175 (pc' := 26) (v := .ref 44) rfl rfl rfl (Nat.le_of_ble_eq_true rfl) (Nat.le_of_ble_eq_true rfl) rfl rfl ?_
      refine pm_R_op pm_M175 (pc' := 27) (st' := [.int 0, .ref 44]) rfl rfl rfl ?_
      refine pm_R_op pm_M175 (pc' := 28) (st' := [.int 0, .int 0, .ref 44]) rfl rfl rfl ?_
      refine pm_R_iast pm_M175 (pc' := 29) rfl (hh 44 (Nat.le_of_ble_eq_true rfl)) (Nat.le_of_ble_eq_true rfl) (Nat.le_of_ble_eq_true rfl) rfl rfl ?_
      refine pm_R_lo pm_M175 (pc' := 30) rfl rfl rfl ?_
      refine pm_R_get pm_M175 (pc' := 33) (v := .ref 45) rfl rfl rfl (Nat.le_of_ble_eq_true rfl) (Nat.le_of_ble_eq_true rfl) rfl rfl ?_
      refine pm_R_op pm_M175 (pc' := 34) (st' := [.int 0, .ref 45]) rfl rfl rfl ?_
      refine pm_R_op pm_M175 (pc' := 35) (st' := [.int (-1), .int 0, .ref 45]) rfl rfl rfl ?_
      refine pm_R_iast pm_M175 (pc' := 36) rfl (hh 45 (Nat.le_of_ble_eq_true rfl)) (Nat.le_of_ble_eq_true rfl) (Nat.le_of_ble_eq_true rfl) rfl rfl ?_
      refine pm_R_lo pm_M175 (pc' := 37) rfl rfl rfl ?_
      refine pm_R_op pm_M175 (pc' := 38) (st' := [.int 0, .int 1]) rfl rfl rfl ?_
      refine pm_R_op pm_M175 (pc' := 39) (st' := [.int 3, .int 0, .int 1]) rfl rfl rfl ?_
      refine pm_R_cs pm_M175 (pc' := 42) (ra := [.int 3, .int 0, .int 1]) (rest := []) (ls' := [.int 1, .int 0, .int 3]) rfl rfl (Or.inl rfl) pm_M174 rfl rfl (Nat.le_of_ble_eq_true rfl) rfl rfl ?_
      refine pm_R_lo pm_M174 (pc' := 1) rfl rfl rfl ?_
      refine pm_R_lo pm_M174 (pc' := 2) rfl rfl rfl ?_
      refine pm_R_br pm_M174 (pc' := 5) (st' := []) rfl rfl ?_
      refine pm_R_lo pm_M174 (pc' := 6) rfl rfl rfl ?_
      refine pm_R_lo pm_M174 (pc' := 7) rfl rfl rfl ?_
      refine pm_R_br pm_M174 (pc' := 10) (st' := []) rfl rfl ?_
      refine pm_R_op pm_M174 (pc' := 11) (st' := [.int 1]) rfl rfl rfl ?_
      refine pm_R_br pm_M174 (pc' := 15) rfl rfl ?_
      refine pm_R_ret pm_M174 (r := some (.int 1)) rfl rfl ?_
      show pm_R _ 175 42 [.ref 41, .int 1, .int x2, pm_no] [.int 1] _ _
      refine pm_R_br pm_M175 (pc' := 45) (st' := []) rfl rfl ?_
      refine pm_R_lo pm_M175 (pc' := 46) rfl rfl rfl ?_
      refine pm_R_op pm_M175 (pc' := 47) (st' := [.int (-1), .int x2]) rfl rfl rfl ?_
      refine pm_R_icmp pm_M175 (t := 66) (pc' := 50) rfl rfl rfl (fun c_6 => ?_) (fun c_6 => by exact absurd c_1 c_6)
      refine pm_R_lo pm_M175 (pc' := 67) rfl rfl rfl ?_
      refine pm_R_lo pm_M175 (pc' := 68) rfl rfl rfl ?_
      refine pm_R_lo pm_M175 (pc' := 69) rfl rfl rfl ?_
      refine pm_R_cv pm_M175 (pc' := 72) (a := 41) (ra := [.int x2, .int 1]) (rest := []) (ls' := [.ref 41, .int 1, .int x2]) rfl rfl (Or.inl rfl) pm_M177 rfl rfl (Nat.le_of_ble_eq_true rfl) (Nat.le_of_ble_eq_true rfl) rfl rfl (Nat.le_of_ble_eq_true rfl) rfl rfl ?_
      refine pm_R_lo pm_M177 (pc' := 1) rfl rfl rfl ?_
      refine pm_R_op pm_M177 (pc' := 2) (st' := [.int 0, .int x2]) rfl rfl rfl ?_
      refine pm_R_lo pm_M177 (pc' := 3) rfl rfl rfl ?_
      refine pm_R_get pm_M177 (pc' := 6) (v := .ref 46) rfl rfl rfl (Nat.le_of_ble_eq_true rfl) (Nat.le_of_ble_eq_true rfl) rfl rfl ?_
      refine pm_R_lo pm_M177 (pc' := 7) rfl rfl rfl ?_
      refine pm_R_iald pm_M177 (pc' := 8) (v := 0) rfl (hh 46 (Nat.le_of_ble_eq_true rfl)) (Nat.le_of_ble_eq_true rfl) rfl rfl rfl ?_
      refine pm_R_op pm_M177 (pc' := 9) (st' := [.int 1, .int 0, .int 0, .int x2]) rfl rfl rfl ?_
      refine pm_R_op pm_M177 (pc' := 10) (st' := [.int (-1), .int 0, .int x2]) rfl rfl rfl ?_
      refine pm_R_cs pm_M177 (pc' := 13) (ra := [.int (-1), .int 0, .int x2]) (rest := []) (ls' := [.int x2, .int 0, .int (-1)]) rfl rfl (Or.inl rfl) pm_M174 rfl rfl (Nat.le_of_ble_eq_true rfl) rfl rfl ?_
      refine pm_R_lo pm_M174 (pc' := 1) rfl rfl rfl ?_
      refine pm_R_lo pm_M174 (pc' := 2) rfl rfl rfl ?_
      refine pm_R_icmp pm_M174 (t := 14) (pc' := 5) rfl rfl rfl (fun c_7 => by exact absurd c_7 c_2) (fun c_7 => ?_)
      refine pm_R_lo pm_M174 (pc' := 6) rfl rfl rfl ?_
      refine pm_R_lo pm_M174 (pc' := 7) rfl rfl rfl ?_
      refine pm_R_icmp pm_M174 (t := 14) (pc' := 10) rfl rfl rfl (fun c_8 => ?_) (fun c_8 => by have z0 : ((-1) : Int32).toInt = -1 := (by decide); have z1 : ((0) : Int32).toInt = 0 := (by decide); have q0 := (Int32.le_iff_toInt_le.mp (Int32.not_lt.mp c_2)); have q1 := (Int32.le_iff_toInt_le.mp (Int32.not_lt.mp c_8)); exfalso; omega)
      refine pm_R_op pm_M174 (pc' := 15) (st' := [.int 0]) rfl rfl rfl ?_
      refine pm_R_ret pm_M174 (r := some (.int 0)) rfl rfl ?_
      show pm_R _ 177 13 [.ref 41, .int 1, .int x2] [.int 0] _ _
      refine pm_R_ret pm_M177 (r := some (.int 0)) rfl rfl ?_
      show pm_R _ 175 72 [.ref 41, .int 1, .int x2, pm_no] [.int 0] _ _
      refine pm_R_br pm_M175 (pc' := 75) (st' := []) rfl rfl ?_
      refine pm_R_op pm_M175 (pc' := 77) (st' := [.int (-2)]) rfl rfl rfl ?_
      refine pm_R_ret pm_M175 (r := some (.int (-2))) rfl rfl ?_
      show pm_R _ 0 334 [.ref 0, .ref 16, .ref 41, .int 0] [.int (-2), .int (-2)] _ _
      refine pm_R_br pm_M0 (pc' := 2121) (st' := []) (pm_q0_2 (Nat.le_of_ble_eq_true rfl)) rfl ?_
      exact p1_tail (hh 0 (Nat.le_of_ble_eq_true rfl)) (Nat.le_of_ble_eq_true rfl) (Nat.le_of_ble_eq_true rfl) (Nat.le_of_ble_eq_true rfl)
  · have c_1 : x2 = (-1) := Classical.not_not.mp c_1
    subst c_1
    show pm_R _ 10 60 [.ref 16, .int 1, .int (-1), .int 0, .int 0, pm_no, pm_no] [] _ _
    refine pm_R_op pm_M10 (pc' := 61) (st' := [.int 1]) rfl rfl rfl ?_
    refine pm_R_br pm_M10 (pc' := 65) rfl rfl ?_
    refine pm_R_lo pm_M10 (pc' := 67) (ls' := [.ref 16, .int 1, .int (-1), .int 0, .int 0, .int 1, pm_no]) (st' := []) rfl rfl rfl ?_
    refine pm_R_lo pm_M10 (pc' := 69) rfl rfl rfl ?_
    refine pm_R_br pm_M10 (pc' := 72) (st' := []) rfl rfl ?_
    refine pm_R_lo pm_M10 (pc' := 74) rfl rfl rfl ?_
    refine pm_R_stat pm_M10 (pc' := 77) rfl rfl rfl ?_
    refine pm_R_lo pm_M10 (pc' := 78) rfl rfl rfl ?_
    refine pm_R_iald pm_M10 (pc' := 79) (v := 3) rfl (hh 1 (Nat.le_of_ble_eq_true rfl)) (Nat.le_of_ble_eq_true rfl) rfl rfl rfl ?_
    refine pm_R_br pm_M10 (pc' := 98) (st' := []) rfl rfl ?_
    refine pm_R_lo pm_M10 (pc' := 100) rfl rfl rfl ?_
    refine pm_R_br pm_M10 (pc' := 103) (st' := []) rfl rfl ?_
    refine pm_R_lo pm_M10 (pc' := 105) rfl rfl rfl ?_
    refine pm_R_br pm_M10 (pc' := 109) rfl rfl ?_
    refine pm_R_lo pm_M10 (pc' := 111) (ls' := [.ref 16, .int 1, .int (-1), .int 0, .int 0, .int 1, .int 0]) (st' := []) rfl rfl rfl ?_
    refine pm_R_lo pm_M10 (pc' := 112) rfl rfl rfl ?_
    refine pm_R_get pm_M10 (pc' := 115) (v := .ref 25) rfl rfl (hh 16 (Nat.le_of_ble_eq_true rfl)) (Nat.le_of_ble_eq_true rfl) (Nat.le_of_ble_eq_true rfl) rfl rfl ?_
    refine pm_R_lo pm_M10 (pc' := 116) rfl rfl rfl ?_
    refine pm_R_lo pm_M10 (pc' := 117) (pm_q10_1 (Nat.le_of_ble_eq_true rfl)) rfl rfl ?_
    refine pm_R_cv pm_M10 (pc' := 120) (a := 25) (ra := [.int 1, .int 0]) (rest := []) (ls' := [.ref 25, .int 0, .int 1, pm_no]) (pm_q10_1 (Nat.le_of_ble_eq_true rfl)) rfl (Or.inl rfl) pm_M11 (hh 25 (Nat.le_of_ble_eq_true rfl)) rfl (Nat.le_of_ble_eq_true rfl) (Nat.le_of_ble_eq_true rfl) rfl rfl (Nat.le_of_ble_eq_true rfl) rfl rfl ?_
    refine pm_R_lo pm_M11 (pc' := 1) rfl rfl rfl ?_
    refine pm_R_cv pm_M11 (pc' := 4) (a := 25) (ra := []) (rest := []) (ls' := [.ref 25]) rfl rfl (Or.inl rfl) pm_M12 (hh 25 (Nat.le_of_ble_eq_true rfl)) rfl (Nat.le_of_ble_eq_true rfl) (Nat.le_of_ble_eq_true rfl) rfl rfl (Nat.le_of_ble_eq_true rfl) rfl rfl ?_
    refine pm_R_lo pm_M12 (pc' := 1) rfl rfl rfl ?_
    refine pm_R_op pm_M12 (pc' := 2) (st' := [.int 0, .ref 25]) rfl rfl rfl ?_
    refine pm_R_put pm_M12 (pc' := 5) (fs' := [.ref 30, .int 0, .int (-1), .ref 26, .int 0, .ref 27, .int 0, .ref 28, .int 4, .int (-1), .ref 29]) rfl rfl rfl (hh 25 (Nat.le_of_ble_eq_true rfl)) (Nat.le_of_ble_eq_true rfl) (Nat.le_of_ble_eq_true rfl) (Nat.le_of_ble_eq_true rfl) rfl (Or.inl rfl) rfl rfl ?_
    refine pm_R_lo pm_M12 (pc' := 6) rfl rfl rfl ?_
    refine pm_R_op pm_M12 (pc' := 7) (st' := [.int (-1), .ref 25]) rfl rfl rfl ?_
    refine pm_R_put pm_M12 (pc' := 10) (fs' := [.ref 30, .int 0, .int (-1), .ref 26, .int 0, .ref 27, .int 0, .ref 28, .int 4, .int (-1), .ref 29]) rfl rfl rfl rfl (Nat.le_of_ble_eq_true rfl) (Nat.le_of_ble_eq_true rfl) (Nat.le_of_ble_eq_true rfl) rfl (Or.inl rfl) rfl rfl ?_
    refine pm_R_lo pm_M12 (pc' := 11) rfl rfl rfl ?_
    refine pm_R_op pm_M12 (pc' := 12) (st' := [.int 0, .ref 25]) rfl rfl rfl ?_
    refine pm_R_put pm_M12 (pc' := 15) (fs' := [.ref 30, .int 0, .int (-1), .ref 26, .int 0, .ref 27, .int 0, .ref 28, .int 4, .int (-1), .ref 29]) rfl rfl rfl rfl (Nat.le_of_ble_eq_true rfl) (Nat.le_of_ble_eq_true rfl) (Nat.le_of_ble_eq_true rfl) rfl (Or.inl rfl) rfl rfl ?_
    refine pm_R_lo pm_M12 (pc' := 16) rfl rfl rfl ?_
    refine pm_R_op pm_M12 (pc' := 17) (st' := [.int 0, .ref 25]) rfl rfl rfl ?_
    refine pm_R_put pm_M12 (pc' := 20) (fs' := [.ref 30, .int 0, .int (-1), .ref 26, .int 0, .ref 27, .int 0, .ref 28, .int 4, .int (-1), .ref 29]) rfl rfl rfl rfl (Nat.le_of_ble_eq_true rfl) (Nat.le_of_ble_eq_true rfl) (Nat.le_of_ble_eq_true rfl) rfl (Or.inl rfl) rfl rfl ?_
    refine pm_R_lo pm_M12 (pc' := 21) rfl rfl rfl ?_
    refine pm_R_get pm_M12 (pc' := 24) (v := .ref 28) rfl rfl rfl (Nat.le_of_ble_eq_true rfl) (Nat.le_of_ble_eq_true rfl) rfl rfl ?_
    refine pm_R_op pm_M12 (pc' := 25) (st' := [.int 0, .ref 28]) rfl rfl rfl ?_
    refine pm_R_cs pm_M12 (pc' := 28) (ra := [.int 0, .ref 28]) (rest := []) (ls' := [.ref 28, .int 0, pm_no, pm_no]) rfl rfl (Or.inl rfl) pm_M13 rfl rfl (Nat.le_of_ble_eq_true rfl) rfl rfl ?_
    refine pm_R_op pm_M13 (pc' := 1) (st' := [.int 0]) rfl rfl rfl ?_
    refine pm_R_lo pm_M13 (pc' := 2) (ls' := [.ref 28, .int 0, .int 0, pm_no]) (st' := []) rfl rfl rfl ?_
    refine pm_R_lo pm_M13 (pc' := 3) rfl rfl rfl ?_
    refine pm_R_alen pm_M13 (pc' := 4) (v := 10) rfl (hh 28 (Nat.le_of_ble_eq_true rfl)) (Nat.le_of_ble_eq_true rfl) (Nat.le_of_ble_eq_true rfl) (Nat.le_of_ble_eq_true rfl) rfl rfl ?_
    refine pm_R_lo pm_M13 (pc' := 5) (ls' := [.ref 28, .int 0, .int 0, .int 10]) (st' := []) rfl rfl rfl ?_
    refine pm_R_lo pm_M13 (pc' := 6) rfl rfl rfl ?_
    refine pm_R_lo pm_M13 (pc' := 7) rfl rfl rfl ?_
    refine pm_R_br pm_M13 (pc' := 10) (st' := []) rfl rfl ?_
    refine pm_R_lo pm_M13 (pc' := 11) rfl rfl rfl ?_
    refine pm_R_lo pm_M13 (pc' := 12) rfl rfl rfl ?_
    refine pm_R_lo pm_M13 (pc' := 13) rfl rfl rfl ?_
    refine pm_R_iast pm_M13 (pc' := 14) rfl (hh 28 (Nat.le_of_ble_eq_true rfl)) (Nat.le_of_ble_eq_true rfl) (Nat.le_of_ble_eq_true rfl) rfl rfl ?_
    refine pm_R_lo pm_M13 (pc' := 17) (ls' := [.ref 28, .int 0, .int 1, .int 10]) (st' := []) rfl rfl rfl ?_
    refine pm_R_br pm_M13 (pc' := 5) rfl rfl ?_
    refine pm_R_lo pm_M13 (pc' := 6) rfl rfl rfl ?_
    refine pm_R_lo pm_M13 (pc' := 7) rfl rfl rfl ?_
    refine pm_R_br pm_M13 (pc' := 10) (st' := []) rfl rfl ?_
    refine pm_R_lo pm_M13 (pc' := 11) rfl rfl rfl ?_
    refine pm_R_lo pm_M13 (pc' := 12) rfl rfl rfl ?_
    refine pm_R_lo pm_M13 (pc' := 13) rfl rfl rfl ?_
    refine pm_R_iast pm_M13 (pc' := 14) rfl rfl (Nat.le_of_ble_eq_true rfl) (Nat.le_of_ble_eq_true rfl) rfl rfl ?_
    refine pm_R_lo pm_M13 (pc' := 17) (ls' := [.ref 28, .int 0, .int 2, .int 10]) (st' := []) rfl rfl rfl ?_
    refine pm_R_br pm_M13 (pc' := 5) rfl rfl ?_
    refine pm_R_lo pm_M13 (pc' := 6) rfl rfl rfl ?_
    refine pm_R_lo pm_M13 (pc' := 7) rfl rfl rfl ?_
    refine pm_R_br pm_M13 (pc' := 10) (st' := []) rfl rfl ?_
    refine pm_R_lo pm_M13 (pc' := 11) rfl rfl rfl ?_
    refine pm_R_lo pm_M13 (pc' := 12) rfl rfl rfl ?_
    refine pm_R_lo pm_M13 (pc' := 13) rfl rfl rfl ?_
    refine pm_R_iast pm_M13 (pc' := 14) rfl rfl (Nat.le_of_ble_eq_true rfl) (Nat.le_of_ble_eq_true rfl) rfl rfl ?_
    refine pm_R_lo pm_M13 (pc' := 17) (ls' := [.ref 28, .int 0, .int 3, .int 10]) (st' := []) rfl rfl rfl ?_
    refine pm_R_br pm_M13 (pc' := 5) rfl rfl ?_
    refine pm_R_lo pm_M13 (pc' := 6) rfl rfl rfl ?_
    refine pm_R_lo pm_M13 (pc' := 7) rfl rfl rfl ?_
    refine pm_R_br pm_M13 (pc' := 10) (st' := []) rfl rfl ?_
    refine pm_R_lo pm_M13 (pc' := 11) rfl rfl rfl ?_
    refine pm_R_lo pm_M13 (pc' := 12) rfl rfl rfl ?_
    refine pm_R_lo pm_M13 (pc' := 13) rfl rfl rfl ?_
    refine pm_R_iast pm_M13 (pc' := 14) rfl rfl (Nat.le_of_ble_eq_true rfl) (Nat.le_of_ble_eq_true rfl) rfl rfl ?_
    refine pm_R_lo pm_M13 (pc' := 17) (ls' := [.ref 28, .int 0, .int 4, .int 10]) (st' := []) rfl rfl rfl ?_
    refine pm_R_br pm_M13 (pc' := 5) rfl rfl ?_
    refine pm_R_lo pm_M13 (pc' := 6) rfl rfl rfl ?_
    refine pm_R_lo pm_M13 (pc' := 7) rfl rfl rfl ?_
    refine pm_R_br pm_M13 (pc' := 10) (st' := []) rfl rfl ?_
    refine pm_R_lo pm_M13 (pc' := 11) rfl rfl rfl ?_
    refine pm_R_lo pm_M13 (pc' := 12) rfl rfl rfl ?_
    refine pm_R_lo pm_M13 (pc' := 13) rfl rfl rfl ?_
    refine pm_R_iast pm_M13 (pc' := 14) rfl rfl (Nat.le_of_ble_eq_true rfl) (Nat.le_of_ble_eq_true rfl) rfl rfl ?_
    refine pm_R_lo pm_M13 (pc' := 17) (ls' := [.ref 28, .int 0, .int 5, .int 10]) (st' := []) rfl rfl rfl ?_
    refine pm_R_br pm_M13 (pc' := 5) rfl rfl ?_
    refine pm_R_lo pm_M13 (pc' := 6) rfl rfl rfl ?_
    refine pm_R_lo pm_M13 (pc' := 7) rfl rfl rfl ?_
    refine pm_R_br pm_M13 (pc' := 10) (st' := []) rfl rfl ?_
    refine pm_R_lo pm_M13 (pc' := 11) rfl rfl rfl ?_
    refine pm_R_lo pm_M13 (pc' := 12) rfl rfl rfl ?_
    refine pm_R_lo pm_M13 (pc' := 13) rfl rfl rfl ?_
    refine pm_R_iast pm_M13 (pc' := 14) rfl rfl (Nat.le_of_ble_eq_true rfl) (Nat.le_of_ble_eq_true rfl) rfl rfl ?_
    refine pm_R_lo pm_M13 (pc' := 17) (ls' := [.ref 28, .int 0, .int 6, .int 10]) (st' := []) rfl rfl rfl ?_
    refine pm_R_br pm_M13 (pc' := 5) rfl rfl ?_
    refine pm_R_lo pm_M13 (pc' := 6) rfl rfl rfl ?_
    refine pm_R_lo pm_M13 (pc' := 7) rfl rfl rfl ?_
    refine pm_R_br pm_M13 (pc' := 10) (st' := []) rfl rfl ?_
    refine pm_R_lo pm_M13 (pc' := 11) rfl rfl rfl ?_
    refine pm_R_lo pm_M13 (pc' := 12) rfl rfl rfl ?_
    refine pm_R_lo pm_M13 (pc' := 13) rfl rfl rfl ?_
    refine pm_R_iast pm_M13 (pc' := 14) rfl rfl (Nat.le_of_ble_eq_true rfl) (Nat.le_of_ble_eq_true rfl) rfl rfl ?_
    refine pm_R_lo pm_M13 (pc' := 17) (ls' := [.ref 28, .int 0, .int 7, .int 10]) (st' := []) rfl rfl rfl ?_
    refine pm_R_br pm_M13 (pc' := 5) rfl rfl ?_
    refine pm_R_lo pm_M13 (pc' := 6) rfl rfl rfl ?_
    refine pm_R_lo pm_M13 (pc' := 7) rfl rfl rfl ?_
    refine pm_R_br pm_M13 (pc' := 10) (st' := []) rfl rfl ?_
    refine pm_R_lo pm_M13 (pc' := 11) rfl rfl rfl ?_
    refine pm_R_lo pm_M13 (pc' := 12) rfl rfl rfl ?_
    refine pm_R_lo pm_M13 (pc' := 13) rfl rfl rfl ?_
    refine pm_R_iast pm_M13 (pc' := 14) rfl rfl (Nat.le_of_ble_eq_true rfl) (Nat.le_of_ble_eq_true rfl) rfl rfl ?_
    refine pm_R_lo pm_M13 (pc' := 17) (ls' := [.ref 28, .int 0, .int 8, .int 10]) (st' := []) rfl rfl rfl ?_
    refine pm_R_br pm_M13 (pc' := 5) rfl rfl ?_
    refine pm_R_lo pm_M13 (pc' := 6) rfl rfl rfl ?_
    refine pm_R_lo pm_M13 (pc' := 7) rfl rfl rfl ?_
    refine pm_R_br pm_M13 (pc' := 10) (st' := []) rfl rfl ?_
    refine pm_R_lo pm_M13 (pc' := 11) rfl rfl rfl ?_
    refine pm_R_lo pm_M13 (pc' := 12) rfl rfl rfl ?_
    refine pm_R_lo pm_M13 (pc' := 13) rfl rfl rfl ?_
    refine pm_R_iast pm_M13 (pc' := 14) rfl rfl (Nat.le_of_ble_eq_true rfl) (Nat.le_of_ble_eq_true rfl) rfl rfl ?_
    refine pm_R_lo pm_M13 (pc' := 17) (ls' := [.ref 28, .int 0, .int 9, .int 10]) (st' := []) rfl rfl rfl ?_
    refine pm_R_br pm_M13 (pc' := 5) rfl rfl ?_
    refine pm_R_lo pm_M13 (pc' := 6) rfl rfl rfl ?_
    refine pm_R_lo pm_M13 (pc' := 7) rfl rfl rfl ?_
    refine pm_R_br pm_M13 (pc' := 10) (st' := []) rfl rfl ?_
    refine pm_R_lo pm_M13 (pc' := 11) rfl rfl rfl ?_
    refine pm_R_lo pm_M13 (pc' := 12) rfl rfl rfl ?_
    refine pm_R_lo pm_M13 (pc' := 13) rfl rfl rfl ?_
    refine pm_R_iast pm_M13 (pc' := 14) rfl rfl (Nat.le_of_ble_eq_true rfl) (Nat.le_of_ble_eq_true rfl) rfl rfl ?_
    refine pm_R_lo pm_M13 (pc' := 17) (ls' := [.ref 28, .int 0, .int 10, .int 10]) (st' := []) rfl rfl rfl ?_
    refine pm_R_br pm_M13 (pc' := 5) rfl rfl ?_
    refine pm_R_lo pm_M13 (pc' := 6) rfl rfl rfl ?_
    refine pm_R_lo pm_M13 (pc' := 7) rfl rfl rfl ?_
    refine pm_R_br pm_M13 (pc' := 20) (st' := []) rfl rfl ?_
    refine pm_R_ret pm_M13 (r := none) rfl rfl ?_
    show pm_R _ 12 28 [.ref 25] [] _ _
    refine pm_R_lo pm_M12 (pc' := 29) rfl rfl rfl ?_
    refine pm_R_op pm_M12 (pc' := 30) (st' := [.int 4, .ref 25]) rfl rfl rfl ?_
    refine pm_R_put pm_M12 (pc' := 33) (fs' := [.ref 30, .int 0, .int (-1), .ref 26, .int 0, .ref 27, .int 0, .ref 28, .int 4, .int (-1), .ref 29]) rfl rfl rfl rfl (Nat.le_of_ble_eq_true rfl) (Nat.le_of_ble_eq_true rfl) (Nat.le_of_ble_eq_true rfl) rfl (Or.inl rfl) rfl rfl ?_
    refine pm_R_lo pm_M12 (pc' := 34) rfl rfl rfl ?_
    refine pm_R_op pm_M12 (pc' := 35) (st' := [.int (-1), .ref 25]) rfl rfl rfl ?_
    refine pm_R_put pm_M12 (pc' := 38) (fs' := [.ref 30, .int 0, .int (-1), .ref 26, .int 0, .ref 27, .int 0, .ref 28, .int 4, .int (-1), .ref 29]) rfl rfl rfl rfl (Nat.le_of_ble_eq_true rfl) (Nat.le_of_ble_eq_true rfl) (Nat.le_of_ble_eq_true rfl) rfl (Or.inl rfl) rfl rfl ?_
    refine pm_R_ret pm_M12 (r := none) rfl rfl ?_
    show pm_R _ 11 4 [.ref 25, .int 0, .int 1, pm_no] [] _ _
    refine pm_R_lo pm_M11 (pc' := 5) rfl rfl rfl ?_
    refine pm_R_get pm_M11 (pc' := 8) (v := .ref 30) rfl rfl rfl (Nat.le_of_ble_eq_true rfl) (Nat.le_of_ble_eq_true rfl) rfl rfl ?_
    refine pm_R_lo pm_M11 (pc' := 9) rfl rfl rfl ?_
    refine pm_R_cv pm_M11 (pc' := 12) (a := 30) (ra := [.int 0]) (rest := []) (ls' := [.ref 30, .int 0]) rfl rfl (Or.inl rfl) pm_M14 (hh 30 (Nat.le_of_ble_eq_true rfl)) rfl (Nat.le_of_ble_eq_true rfl) (Nat.le_of_ble_eq_true rfl) rfl rfl (Nat.le_of_ble_eq_true rfl) rfl rfl ?_
    refine pm_R_lo pm_M14 (pc' := 1) rfl rfl rfl ?_
    refine pm_R_lo pm_M14 (pc' := 2) rfl rfl rfl ?_
    refine pm_R_lo pm_M14 (pc' := 3) rfl rfl rfl ?_
    refine pm_R_get pm_M14 (pc' := 6) (v := .ref 18) rfl rfl (hh 30 (Nat.le_of_ble_eq_true rfl)) (Nat.le_of_ble_eq_true rfl) (Nat.le_of_ble_eq_true rfl) rfl rfl ?_
    refine pm_R_alen pm_M14 (pc' := 7) (v := 600) rfl (hh 18 (Nat.le_of_ble_eq_true rfl)) (Nat.le_of_ble_eq_true rfl) (Nat.le_of_ble_eq_true rfl) (Nat.le_of_ble_eq_true rfl) rfl rfl ?_
    refine pm_R_nat pm_M14 (pc' := 10) (st' := [.int 0, .ref 30]) rfl rfl rfl rfl rfl ?_
    refine pm_R_put pm_M14 (pc' := 13) (fs' := [.ref 18, .int 0, .int 0, .int 0, .int 0, .int 0]) rfl rfl rfl (hh 30 (Nat.le_of_ble_eq_true rfl)) (Nat.le_of_ble_eq_true rfl) (Nat.le_of_ble_eq_true rfl) (Nat.le_of_ble_eq_true rfl) rfl (Or.inl rfl) rfl rfl ?_
    refine pm_R_lo pm_M14 (pc' := 14) rfl rfl rfl ?_
    refine pm_R_op pm_M14 (pc' := 15) (st' := [.int 0, .ref 30]) rfl rfl rfl ?_
    refine pm_R_put pm_M14 (pc' := 18) (fs' := [.ref 18, .int 0, .int 0, .int 0, .int 0, .int 0]) rfl rfl rfl rfl (Nat.le_of_ble_eq_true rfl) (Nat.le_of_ble_eq_true rfl) (Nat.le_of_ble_eq_true rfl) rfl (Or.inl rfl) rfl rfl ?_
    refine pm_R_lo pm_M14 (pc' := 19) rfl rfl rfl ?_
    refine pm_R_op pm_M14 (pc' := 20) (st' := [.int 0, .ref 30]) rfl rfl rfl ?_
    refine pm_R_put pm_M14 (pc' := 23) (fs' := [.ref 18, .int 0, .int 0, .int 0, .int 0, .int 0]) rfl rfl rfl rfl (Nat.le_of_ble_eq_true rfl) (Nat.le_of_ble_eq_true rfl) (Nat.le_of_ble_eq_true rfl) rfl (Or.inl rfl) rfl rfl ?_
    refine pm_R_lo pm_M14 (pc' := 24) rfl rfl rfl ?_
    refine pm_R_op pm_M14 (pc' := 25) (st' := [.int 0, .ref 30]) rfl rfl rfl ?_
    refine pm_R_put pm_M14 (pc' := 28) (fs' := [.ref 18, .int 0, .int 0, .int 0, .int 0, .int 0]) rfl rfl rfl rfl (Nat.le_of_ble_eq_true rfl) (Nat.le_of_ble_eq_true rfl) (Nat.le_of_ble_eq_true rfl) rfl (Or.inl rfl) rfl rfl ?_
    refine pm_R_ret pm_M14 (r := none) rfl rfl ?_
    show pm_R _ 11 12 [.ref 25, .int 0, .int 1, pm_no] [] _ _
    refine pm_R_lo pm_M11 (pc' := 13) rfl rfl rfl ?_
    refine pm_R_op pm_M11 (pc' := 14) (st' := [.int 1, .int 1]) rfl rfl rfl ?_
    refine pm_R_br pm_M11 (pc' := 17) (st' := []) rfl rfl ?_
    refine pm_R_lo pm_M11 (pc' := 18) rfl rfl rfl ?_
    refine pm_R_cv pm_M11 (pc' := 21) (a := 25) (ra := []) (rest := []) (ls' := [.ref 25, pm_no]) rfl rfl (Or.inl rfl) pm_M15 rfl rfl (Nat.le_of_ble_eq_true rfl) (Nat.le_of_ble_eq_true rfl) rfl rfl (Nat.le_of_ble_eq_true rfl) rfl rfl ?_
    refine pm_R_lo pm_M15 (pc' := 1) rfl rfl rfl ?_
    refine pm_R_get pm_M15 (pc' := 4) (v := .ref 30) rfl rfl rfl (Nat.le_of_ble_eq_true rfl) (Nat.le_of_ble_eq_true rfl) rfl rfl ?_
    refine pm_R_cv pm_M15 (pc' := 7) (a := 30) (ra := []) (rest := []) (ls' := [.ref 30]) rfl rfl (Or.inl rfl) pm_M16 rfl rfl (Nat.le_of_ble_eq_true rfl) (Nat.le_of_ble_eq_true rfl) rfl rfl (Nat.le_of_ble_eq_true rfl) rfl rfl ?_
    refine pm_R_lo pm_M16 (pc' := 1) rfl rfl rfl ?_
    refine pm_R_lo pm_M16 (pc' := 2) rfl rfl rfl ?_
    refine pm_R_get pm_M16 (pc' := 5) (v := .int 0) rfl rfl rfl (Nat.le_of_ble_eq_true rfl) (Nat.le_of_ble_eq_true rfl) rfl rfl ?_
    refine pm_R_put pm_M16 (pc' := 8) (fs' := [.ref 18, .int 0, .int 0, .int 0, .int 0, .int 0]) rfl rfl rfl rfl (Nat.le_of_ble_eq_true rfl) (Nat.le_of_ble_eq_true rfl) (Nat.le_of_ble_eq_true rfl) rfl (Or.inl rfl) rfl rfl ?_
    refine pm_R_lo pm_M16 (pc' := 9) rfl rfl rfl ?_
    refine pm_R_get pm_M16 (pc' := 12) (v := .int 0) rfl rfl rfl (Nat.le_of_ble_eq_true rfl) (Nat.le_of_ble_eq_true rfl) rfl rfl ?_
    refine pm_R_lo pm_M16 (pc' := 13) rfl rfl rfl ?_
    refine pm_R_get pm_M16 (pc' := 16) (v := .int 0) rfl rfl rfl (Nat.le_of_ble_eq_true rfl) (Nat.le_of_ble_eq_true rfl) rfl rfl ?_
    refine pm_R_br pm_M16 (pc' := 47) (st' := []) rfl rfl ?_
    refine pm_R_lo pm_M16 (pc' := 48) rfl rfl rfl ?_
    refine pm_R_lo pm_M16 (pc' := 49) rfl rfl rfl ?_
    refine pm_R_get pm_M16 (pc' := 52) (v := .int 0) rfl rfl rfl (Nat.le_of_ble_eq_true rfl) (Nat.le_of_ble_eq_true rfl) rfl rfl ?_
    refine pm_R_put pm_M16 (pc' := 55) (fs' := [.ref 18, .int 0, .int 0, .int 0, .int 0, .int 0]) rfl rfl rfl rfl (Nat.le_of_ble_eq_true rfl) (Nat.le_of_ble_eq_true rfl) (Nat.le_of_ble_eq_true rfl) rfl (Or.inl rfl) rfl rfl ?_
    refine pm_R_lo pm_M16 (pc' := 56) rfl rfl rfl ?_
    refine pm_R_get pm_M16 (pc' := 59) (v := .int 0) rfl rfl rfl (Nat.le_of_ble_eq_true rfl) (Nat.le_of_ble_eq_true rfl) rfl rfl ?_
    refine pm_R_lo pm_M16 (pc' := 60) rfl rfl rfl ?_
    refine pm_R_get pm_M16 (pc' := 63) (v := .int 0) rfl rfl rfl (Nat.le_of_ble_eq_true rfl) (Nat.le_of_ble_eq_true rfl) rfl rfl ?_
    refine pm_R_br pm_M16 (pc' := 66) (st' := []) rfl rfl ?_
    refine pm_R_lo pm_M16 (pc' := 67) rfl rfl rfl ?_
    refine pm_R_op pm_M16 (pc' := 68) (st' := [.int 0, .ref 30]) rfl rfl rfl ?_
    refine pm_R_put pm_M16 (pc' := 71) (fs' := [.ref 18, .int 0, .int 0, .int 0, .int 0, .int 0]) rfl rfl rfl rfl (Nat.le_of_ble_eq_true rfl) (Nat.le_of_ble_eq_true rfl) (Nat.le_of_ble_eq_true rfl) rfl (Or.inl rfl) rfl rfl ?_
    refine pm_R_br pm_M16 (pc' := 191) rfl rfl ?_
    refine pm_R_ret pm_M16 (r := none) (pm_q16_1 (Nat.le_of_ble_eq_true rfl)) rfl ?_
    show pm_R _ 15 7 [.ref 25, pm_no] [] _ _
    refine pm_R_op pm_M15 (pc' := 8) (st' := [.int 0]) rfl rfl rfl ?_
    refine pm_R_lo pm_M15 (pc' := 9) (ls' := [.ref 25, .int 0]) (st' := []) rfl rfl rfl ?_
    refine pm_R_lo pm_M15 (pc' := 10) rfl rfl rfl ?_
    refine pm_R_op pm_M15 (pc' := 13) (st' := [.int 600, .int 0]) rfl rfl rfl ?_
    refine pm_R_br pm_M15 (pc' := 16) (st' := []) rfl rfl ?_
    refine pm_R_lo pm_M15 (pc' := 17) rfl rfl rfl ?_
    refine pm_R_get pm_M15 (pc' := 20) (v := .ref 30) rfl rfl rfl (Nat.le_of_ble_eq_true rfl) (Nat.le_of_ble_eq_true rfl) rfl rfl ?_
    refine pm_R_get pm_M15 (pc' := 23) (v := .int 0) rfl rfl rfl (Nat.le_of_ble_eq_true rfl) (Nat.le_of_ble_eq_true rfl) rfl rfl ?_
    refine pm_R_op pm_M15 (pc' := 24) (st' := [.int 2, .int 0]) rfl rfl rfl ?_
    refine pm_R_br pm_M15 (pc' := 114) (st' := []) rfl rfl ?_
    refine pm_R_lo pm_M15 (pc' := 115) rfl rfl rfl ?_
    refine pm_R_get pm_M15 (pc' := 118) (v := .ref 30) rfl rfl rfl (Nat.le_of_ble_eq_true rfl) (Nat.le_of_ble_eq_true rfl) rfl rfl ?_
    refine pm_R_get pm_M15 (pc' := 121) (v := .int 0) rfl rfl rfl (Nat.le_of_ble_eq_true rfl) (Nat.le_of_ble_eq_true rfl) rfl rfl ?_
    refine pm_R_br pm_M15 (pc' := 124) (st' := []) rfl rfl ?_
    refine pm_R_op pm_M15 (pc' := 125) (st' := [.int 1]) rfl rfl rfl ?_
    refine pm_R_br pm_M15 (pc' := 129) rfl rfl ?_
    refine pm_R_ret pm_M15 (r := some (.int 1)) (pm_q15_1 (Nat.le_of_ble_eq_true rfl)) rfl ?_
    show pm_R _ 11 21 [.ref 25, .int 0, .int 1, pm_no] [.int 1] _ _
    refine pm_R_br pm_M11 (pc' := 29) rfl rfl ?_
    refine pm_R_lo pm_M11 (pc' := 30) (ls' := [.ref 25, .int 0, .int 1, .int 1]) (st' := []) rfl rfl rfl ?_
    refine pm_R_lo pm_M11 (pc' := 31) rfl rfl rfl ?_
    refine pm_R_br pm_M11 (pc' := 53) (st' := []) rfl rfl ?_
    refine pm_R_lo pm_M11 (pc' := 54) rfl rfl rfl ?_
    refine pm_R_op pm_M11 (pc' := 55) (st' := [.int 1, .int 1]) rfl rfl rfl ?_
    refine pm_R_br pm_M11 (pc' := 58) (st' := []) rfl rfl ?_
    refine pm_R_lo pm_M11 (pc' := 59) rfl rfl rfl ?_
    refine pm_R_get pm_M11 (pc' := 62) (v := .int 0) rfl rfl rfl (Nat.le_of_ble_eq_true rfl) (Nat.le_of_ble_eq_true rfl) rfl rfl ?_
    refine pm_R_br pm_M11 (pc' := 81) (st' := []) rfl rfl ?_
    refine pm_R_lo pm_M11 (pc' := 82) rfl rfl rfl ?_
    refine pm_R_op pm_M11 (pc' := 83) (st' := [.int 4, .ref 25]) rfl rfl rfl ?_
    refine pm_R_lo pm_M11 (pc' := 84) rfl rfl rfl ?_
    refine pm_R_cv pm_M11 (pc' := 87) (a := 25) (ra := [.int 0, .int 4]) (rest := []) (ls' := [.ref 25, .int 4, .int 0]) rfl rfl (Or.inl rfl) pm_M21 rfl rfl (Nat.le_of_ble_eq_true rfl) (Nat.le_of_ble_eq_true rfl) rfl rfl (Nat.le_of_ble_eq_true rfl) rfl rfl ?_
    refine pm_R_lo pm_M21 (pc' := 1) rfl rfl rfl ?_
    refine pm_R_get pm_M21 (pc' := 4) (v := .int 0) rfl rfl rfl (Nat.le_of_ble_eq_true rfl) (Nat.le_of_ble_eq_true rfl) rfl rfl ?_
    refine pm_R_br pm_M21 (pc' := 7) (st' := []) rfl rfl ?_
    refine pm_R_lo pm_M21 (pc' := 8) rfl rfl rfl ?_
    refine pm_R_lo pm_M21 (pc' := 9) rfl rfl rfl ?_
    refine pm_R_put pm_M21 (pc' := 12) (fs' := [.ref 30, .int 4, .int (-1), .ref 26, .int 0, .ref 27, .int 0, .ref 28, .int 4, .int (-1), .ref 29]) rfl rfl rfl rfl (Nat.le_of_ble_eq_true rfl) (Nat.le_of_ble_eq_true rfl) (Nat.le_of_ble_eq_true rfl) rfl (Or.inl rfl) rfl rfl ?_
    refine pm_R_lo pm_M21 (pc' := 13) rfl rfl rfl ?_
    refine pm_R_lo pm_M21 (pc' := 14) rfl rfl rfl ?_
    refine pm_R_put pm_M21 (pc' := 17) (fs' := [.ref 30, .int 4, .int 0, .ref 26, .int 0, .ref 27, .int 0, .ref 28, .int 4, .int (-1), .ref 29]) rfl rfl rfl rfl (Nat.le_of_ble_eq_true rfl) (Nat.le_of_ble_eq_true rfl) (Nat.le_of_ble_eq_true rfl) rfl (Or.inl rfl) rfl rfl ?_
    refine pm_R_ret pm_M21 (r := none) rfl rfl ?_
    show pm_R _ 11 87 [.ref 25, .int 0, .int 1, .int 1] [] _ _
    refine pm_R_ret pm_M11 (r := none) rfl rfl ?_
    show pm_R _ 10 120 [.ref 16, .int 1, .int (-1), .int 0, .int 0, .int 1, .int 0] [] _ _
    refine pm_R_lo pm_M10 (pc' := 121) (pm_q10_1 (Nat.le_of_ble_eq_true rfl)) rfl rfl ?_
    refine pm_R_get pm_M10 (pc' := 124) (v := .ref 17) (pm_q10_1 (Nat.le_of_ble_eq_true rfl)) rfl (hh 16 (Nat.le_of_ble_eq_true rfl)) (Nat.le_of_ble_eq_true rfl) (Nat.le_of_ble_eq_true rfl) rfl rfl ?_
    refine pm_R_lo pm_M10 (pc' := 125) (pm_q10_1 (Nat.le_of_ble_eq_true rfl)) rfl rfl ?_
    refine pm_R_get pm_M10 (pc' := 128) (v := .ref 25) (pm_q10_1 (Nat.le_of_ble_eq_true rfl)) rfl (hh 16 (Nat.le_of_ble_eq_true rfl)) (Nat.le_of_ble_eq_true rfl) (Nat.le_of_ble_eq_true rfl) rfl rfl ?_
    refine pm_R_get pm_M10 (pc' := 131) (v := .int 4) (pm_q10_1 (Nat.le_of_ble_eq_true rfl)) rfl rfl (Nat.le_of_ble_eq_true rfl) (Nat.le_of_ble_eq_true rfl) rfl rfl ?_
    refine pm_R_put pm_M10 (pc' := 134) (fs' := [.ref 18, .int 0, .int 4, .int (-1), .ref 19, .ref 20, .ref 21, .ref 22, .ref 23]) (pm_q10_1 (Nat.le_of_ble_eq_true rfl)) rfl rfl rfl (Nat.le_of_ble_eq_true rfl) (Nat.le_of_ble_eq_true rfl) (Nat.le_of_ble_eq_true rfl) rfl (Or.inl rfl) rfl rfl ?_
    refine pm_R_lo pm_M10 (pc' := 135) (pm_q10_1 (Nat.le_of_ble_eq_true rfl)) rfl rfl ?_
    refine pm_R_get pm_M10 (pc' := 138) (v := .ref 17) (pm_q10_1 (Nat.le_of_ble_eq_true rfl)) rfl (hh 16 (Nat.le_of_ble_eq_true rfl)) (Nat.le_of_ble_eq_true rfl) (Nat.le_of_ble_eq_true rfl) rfl rfl ?_
    refine pm_R_lo pm_M10 (pc' := 139) (pm_q10_1 (Nat.le_of_ble_eq_true rfl)) rfl rfl ?_
    refine pm_R_get pm_M10 (pc' := 142) (v := .ref 25) (pm_q10_1 (Nat.le_of_ble_eq_true rfl)) rfl (hh 16 (Nat.le_of_ble_eq_true rfl)) (Nat.le_of_ble_eq_true rfl) (Nat.le_of_ble_eq_true rfl) rfl rfl ?_
    refine pm_R_get pm_M10 (pc' := 145) (v := .int 0) (pm_q10_1 (Nat.le_of_ble_eq_true rfl)) rfl rfl (Nat.le_of_ble_eq_true rfl) (Nat.le_of_ble_eq_true rfl) rfl rfl ?_
    refine pm_R_put pm_M10 (pc' := 148) (fs' := [.ref 18, .int 0, .int 4, .int 0, .ref 19, .ref 20, .ref 21, .ref 22, .ref 23]) (pm_q10_1 (Nat.le_of_ble_eq_true rfl)) rfl rfl rfl (Nat.le_of_ble_eq_true rfl) (Nat.le_of_ble_eq_true rfl) (Nat.le_of_ble_eq_true rfl) rfl (Or.inl rfl) rfl rfl ?_
    refine pm_R_lo pm_M10 (pc' := 149) (pm_q10_1 (Nat.le_of_ble_eq_true rfl)) rfl rfl ?_
    refine pm_R_get pm_M10 (pc' := 152) (v := .ref 17) (pm_q10_1 (Nat.le_of_ble_eq_true rfl)) rfl (hh 16 (Nat.le_of_ble_eq_true rfl)) (Nat.le_of_ble_eq_true rfl) (Nat.le_of_ble_eq_true rfl) rfl rfl ?_
    refine pm_R_get pm_M10 (pc' := 155) (v := .int 4) (pm_q10_1 (Nat.le_of_ble_eq_true rfl)) rfl rfl (Nat.le_of_ble_eq_true rfl) (Nat.le_of_ble_eq_true rfl) rfl rfl ?_
    refine pm_R_br pm_M10 (pc' := 158) (st' := []) (pm_q10_1 (Nat.le_of_ble_eq_true rfl)) rfl ?_
    refine pm_R_op pm_M10 (pc' := 159) (st' := [.int (-1)]) (pm_q10_1 (Nat.le_of_ble_eq_true rfl)) rfl rfl ?_
    refine pm_R_ret pm_M10 (r := some (.int (-1))) (pm_q10_1 (Nat.le_of_ble_eq_true rfl)) rfl ?_
    show pm_R _ 0 320 [.ref 0, .ref 16, .ref 41, .int 0] [.int (-1)] _ _
    refine pm_R_lo pm_M0 (pc' := 321) (pm_q0_1 (Nat.le_of_ble_eq_true rfl)) rfl rfl ?_
    refine pm_R_lo pm_M0 (pc' := 322) (pm_q0_1 (Nat.le_of_ble_eq_true rfl)) rfl rfl ?_
    refine pm_R_lo pm_M0 (pc' := 323) (pm_q0_1 (Nat.le_of_ble_eq_true rfl)) rfl rfl ?_
    refine pm_R_op pm_M0 (pc' := 324) (st' := [.int 1, .int 0, .ref 0, .ref 41, .int (-1)]) (pm_q0_1 (Nat.le_of_ble_eq_true rfl)) rfl rfl ?_
    refine pm_R_op pm_M0 (pc' := 325) (st' := [.int 1, .ref 0, .ref 41, .int (-1)]) (pm_q0_1 (Nat.le_of_ble_eq_true rfl)) rfl rfl ?_
    refine pm_R_iald pm_M0 (pc' := 326) (v := 1) (pm_q0_1 (Nat.le_of_ble_eq_true rfl)) (hh 0 (Nat.le_of_ble_eq_true rfl)) (Nat.le_of_ble_eq_true rfl) rfl hx1 rfl ?_
    refine pm_R_lo pm_M0 (pc' := 327) (pm_q0_1 (Nat.le_of_ble_eq_true rfl)) rfl rfl ?_
    refine pm_R_lo pm_M0 (pc' := 328) (pm_q0_1 (Nat.le_of_ble_eq_true rfl)) rfl rfl ?_
    refine pm_R_op pm_M0 (pc' := 329) (st' := [.int 2, .int 0, .ref 0, .int 1, .ref 41, .int (-1)]) (pm_q0_1 (Nat.le_of_ble_eq_true rfl)) rfl rfl ?_
    refine pm_R_op pm_M0 (pc' := 330) (st' := [.int 2, .ref 0, .int 1, .ref 41, .int (-1)]) (pm_q0_1 (Nat.le_of_ble_eq_true rfl)) rfl rfl ?_
    refine pm_R_iald pm_M0 (pc' := 331) (v := (-1)) (pm_q0_1 (Nat.le_of_ble_eq_true rfl)) (hh 0 (Nat.le_of_ble_eq_true rfl)) (Nat.le_of_ble_eq_true rfl) rfl hx2 rfl ?_
    refine pm_R_cv pm_M0 (pc' := 334) (a := 41) (ra := [.int (-1), .int 1]) (rest := [.int (-1)]) (ls' := [.ref 41, .int 1, .int (-1), pm_no]) (pm_q0_1 (Nat.le_of_ble_eq_true rfl)) rfl (Or.inl rfl) pm_M175 (hh 41 (Nat.le_of_ble_eq_true rfl)) rfl (Nat.le_of_ble_eq_true rfl) (Nat.le_of_ble_eq_true rfl) rfl rfl (Nat.le_of_ble_eq_true rfl) rfl rfl ?_
    refine pm_R_lo pm_M175 (pc' := 1) rfl rfl rfl ?_
    refine pm_R_op pm_M175 (pc' := 2) (st' := [.int 0, .ref 41]) rfl rfl rfl ?_
    refine pm_R_put pm_M175 (pc' := 5) (fs' := [.int 0, .ref 42, .ref 43, .ref 44, .ref 45, .ref 46, .ref 47, .ref 48, .ref 49, .ref 50, .int 0, .int 0, .int 0, .int 0, .int 0, .long 0, .int 0, .int 0, .int 0, .ref 51, .ref 52, .int 0, .int 0, .int 0, .int 0, .ref 53, .int 0, .int 0, .ref 54, .ref 55, .ref 56, .int 0, .ref 57, .ref 58, .ref 59, .ref 60, .ref 61, .ref 62, .ref 63, .ref 64, .ref 65, .ref 66, .int 0, .int 0, .int 0, .ref 67, .ref 68, .int 0, .ref 69, .int 0, .int 0, .ref 70, .ref 71]) rfl rfl rfl (hh 41 (Nat.le_of_ble_eq_true rfl)) (Nat.le_of_ble_eq_true rfl) (Nat.le_of_ble_eq_true rfl) (Nat.le_of_ble_eq_true rfl) rfl (Or.inl rfl) rfl rfl ?_
    refine pm_R_lo pm_M175 (pc' := 6) rfl rfl rfl ?_
    refine pm_R_lo pm_M175 (pc' := 7) rfl rfl rfl ?_
    refine pm_R_get pm_M175 (pc' := 10) (v := .ref 43) rfl rfl rfl (Nat.le_of_ble_eq_true rfl) (Nat.le_of_ble_eq_true rfl) rfl rfl ?_
    refine pm_R_op pm_M175 (pc' := 11) (st' := [.int 0, .ref 43, .ref 41]) rfl rfl rfl ?_
    refine pm_R_iald pm_M175 (pc' := 12) (v := 0) rfl (hh 43 (Nat.le_of_ble_eq_true rfl)) (Nat.le_of_ble_eq_true rfl) rfl rfl rfl ?_
    refine pm_R_put pm_M175 (pc' := 15) (fs' := [.int 0, .ref 42, .ref 43, .ref 44, .ref 45, .ref 46, .ref 47, .ref 48, .ref 49, .ref 50, .int 0, .int 0, .int 0, .int 0, .int 0, .long 0, .int 0, .int 0, .int 0, .ref 51, .ref 52, .int 0, .int 0, .int 0, .int 0, .ref 53, .int 0, .int 0, .ref 54, .ref 55, .ref 56, .int 0, .ref 57, .ref 58, .ref 59, .ref 60, .ref 61, .ref 62, .ref 63, .ref 64, .ref 65, .ref 66, .int 0, .int 0, .int 0, .ref 67, .ref 68, .int 0, .ref 69, .int 0, .int 0, .ref 70, .ref 71]) rfl rfl rfl rfl (Nat.le_of_ble_eq_true rfl) (Nat.le_of_ble_eq_true rfl) (Nat.le_of_ble_eq_true rfl) rfl (Or.inl rfl) rfl rfl ?_
    refine pm_R_lo pm_M175 (pc' := 16) rfl rfl rfl ?_
    refine pm_R_get pm_M175 (pc' := 19) (v := .ref 43) rfl rfl rfl (Nat.le_of_ble_eq_true rfl) (Nat.le_of_ble_eq_true rfl) rfl rfl ?_
    refine pm_R_op pm_M175 (pc' := 20) (st' := [.int 0, .ref 43]) rfl rfl rfl ?_
    refine pm_R_op pm_M175 (pc' := 21) (st' := [.int 0, .int 0, .ref 43]) rfl rfl rfl ?_
    refine pm_R_iast pm_M175 (pc' := 22) rfl (hh 43 (Nat.le_of_ble_eq_true rfl)) (Nat.le_of_ble_eq_true rfl) (Nat.le_of_ble_eq_true rfl) rfl rfl ?_
    refine pm_R_lo pm_M175 (pc' := 23) rfl rfl rfl ?_
    refine pm_R_get pm_M175 (pc' := 26) (v := .ref 44) rfl rfl rfl (Nat.le_of_ble_eq_true rfl) (Nat.le_of_ble_eq_true rfl) rfl rfl ?_
    refine pm_R_op pm_M175 (pc' := 27) (st' := [.int 0, .ref 44]) rfl rfl rfl ?_
    refine pm_R_op pm_M175 (pc' := 28) (st' := [.int 0, .int 0, .ref 44]) rfl rfl rfl ?_
    refine pm_R_iast pm_M175 (pc' := 29) rfl (hh 44 (Nat.le_of_ble_eq_true rfl)) (Nat.le_of_ble_eq_true rfl) (Nat.le_of_ble_eq_true rfl) rfl rfl ?_
    refine pm_R_lo pm_M175 (pc' := 30) rfl rfl rfl ?_
    refine pm_R_get pm_M175 (pc' := 33) (v := .ref 45) rfl rfl rfl (Nat.le_of_ble_eq_true rfl) (Nat.le_of_ble_eq_true rfl) rfl rfl ?_
    refine pm_R_op pm_M175 (pc' := 34) (st' := [.int 0, .ref 45]) rfl rfl rfl ?_
    refine pm_R_op pm_M175 (pc' := 35) (st' := [.int (-1), .int 0, .ref 45]) rfl rfl rfl ?_
    refine pm_R_iast pm_M175 (pc' := 36) rfl (hh 45 (Nat.le_of_ble_eq_true rfl)) (Nat.le_of_ble_eq_true rfl) (Nat.le_of_ble_eq_true rfl) rfl rfl ?_
    refine pm_R_lo pm_M175 (pc' := 37) rfl rfl rfl ?_
    refine pm_R_op pm_M175 (pc' := 38) (st' := [.int 0, .int 1]) rfl rfl rfl ?_
    refine pm_R_op pm_M175 (pc' := 39) (st' := [.int 3, .int 0, .int 1]) rfl rfl rfl ?_
    refine pm_R_cs pm_M175 (pc' := 42) (ra := [.int 3, .int 0, .int 1]) (rest := []) (ls' := [.int 1, .int 0, .int 3]) rfl rfl (Or.inl rfl) pm_M174 rfl rfl (Nat.le_of_ble_eq_true rfl) rfl rfl ?_
    refine pm_R_lo pm_M174 (pc' := 1) rfl rfl rfl ?_
    refine pm_R_lo pm_M174 (pc' := 2) rfl rfl rfl ?_
    refine pm_R_br pm_M174 (pc' := 5) (st' := []) rfl rfl ?_
    refine pm_R_lo pm_M174 (pc' := 6) rfl rfl rfl ?_
    refine pm_R_lo pm_M174 (pc' := 7) rfl rfl rfl ?_
    refine pm_R_br pm_M174 (pc' := 10) (st' := []) rfl rfl ?_
    refine pm_R_op pm_M174 (pc' := 11) (st' := [.int 1]) rfl rfl rfl ?_
    refine pm_R_br pm_M174 (pc' := 15) rfl rfl ?_
    refine pm_R_ret pm_M174 (r := some (.int 1)) rfl rfl ?_
    show pm_R _ 175 42 [.ref 41, .int 1, .int (-1), pm_no] [.int 1] _ _
    refine pm_R_br pm_M175 (pc' := 45) (st' := []) rfl rfl ?_
    refine pm_R_lo pm_M175 (pc' := 46) rfl rfl rfl ?_
    refine pm_R_op pm_M175 (pc' := 47) (st' := [.int (-1), .int (-1)]) rfl rfl rfl ?_
    refine pm_R_br pm_M175 (pc' := 50) (st' := []) rfl rfl ?_
    refine pm_R_lo pm_M175 (pc' := 51) rfl rfl rfl ?_
    refine pm_R_get pm_M175 (pc' := 54) (v := .ref 46) rfl rfl rfl (Nat.le_of_ble_eq_true rfl) (Nat.le_of_ble_eq_true rfl) rfl rfl ?_
    refine pm_R_lo pm_M175 (pc' := 55) rfl rfl rfl ?_
    refine pm_R_iald pm_M175 (pc' := 56) (v := 0) rfl (hh 46 (Nat.le_of_ble_eq_true rfl)) (Nat.le_of_ble_eq_true rfl) rfl rfl rfl ?_
    refine pm_R_lo pm_M175 (pc' := 57) rfl rfl rfl ?_
    refine pm_R_cs pm_M175 (pc' := 60) (ra := [.int 1]) (rest := [.int 0]) (ls' := [.int 1]) rfl rfl (Or.inl rfl) pm_M176 rfl rfl (Nat.le_of_ble_eq_true rfl) rfl rfl ?_
    refine pm_R_lo pm_M176 (pc' := 1) rfl rfl rfl ?_
    refine pm_R_op pm_M176 (pc' := 2) (st' := [.int 1, .int 1]) rfl rfl rfl ?_
    refine pm_R_br pm_M176 (pc' := 5) (st' := []) rfl rfl ?_
    refine pm_R_op pm_M176 (pc' := 6) (st' := [.int 3]) rfl rfl rfl ?_
    refine pm_R_br pm_M176 (pc' := 10) rfl rfl ?_
    refine pm_R_ret pm_M176 (r := some (.int 3)) rfl rfl ?_
    show pm_R _ 175 60 [.ref 41, .int 1, .int (-1), pm_no] [.int 3, .int 0] _ _
    refine pm_R_br pm_M175 (pc' := 78) (st' := []) rfl rfl ?_
    refine pm_R_lo pm_M175 (pc' := 79) rfl rfl rfl ?_
    refine pm_R_lo pm_M175 (pc' := 80) rfl rfl rfl ?_
    refine pm_R_cv pm_M175 (pc' := 83) (a := 41) (ra := [.int 1]) (rest := []) (ls' := [.ref 41, .int 1, pm_no, pm_no]) rfl rfl (Or.inl rfl) pm_M178 rfl rfl (Nat.le_of_ble_eq_true rfl) (Nat.le_of_ble_eq_true rfl) rfl rfl (Nat.le_of_ble_eq_true rfl) rfl rfl ?_
    refine pm_R_op pm_M178 (pc' := 1) (st' := [.int 0]) rfl rfl rfl ?_
    refine pm_R_lo pm_M178 (pc' := 2) (ls' := [.ref 41, .int 1, .int 0, pm_no]) (st' := []) rfl rfl rfl ?_
    refine pm_R_heq (pm_set_self (a := 51) (c := .inl (0, 152, .inl (fun _ => 0))) (hh 51 (Nat.le_of_ble_eq_true rfl))).symm ?_
    refine p1_L1 rfl rfl (Nat.le_of_ble_eq_true rfl) (fun g_9 => ?_) 152 0 _ rfl
    refine pm_R_lo pm_M178 (pc' := 23) rfl rfl rfl ?_
    refine pm_R_get pm_M178 (pc' := 26) (v := .ref 51) rfl rfl rfl (Nat.le_of_ble_eq_true rfl) (Nat.le_of_ble_eq_true rfl) rfl rfl ?_
    refine pm_R_op pm_M178 (pc' := 27) (st' := [.int 0, .ref 51]) rfl rfl rfl ?_
    refine pm_R_lo pm_M178 (pc' := 28) rfl rfl rfl ?_
    refine pm_R_op pm_M178 (pc' := 29) (st' := [.int 2, .int 1, .int 0, .ref 51]) rfl rfl rfl ?_
    refine pm_R_br pm_M178 (pc' := 36) (st' := [.int 0, .ref 51]) rfl rfl ?_
    refine pm_R_op pm_M178 (pc' := 37) (st' := [.int 0, .int 0, .ref 51]) rfl rfl rfl ?_
    refine pm_R_iast pm_M178 (pc' := 38) rfl rfl (Nat.le_of_ble_eq_true rfl) (Nat.le_of_ble_eq_true rfl) rfl rfl ?_
    refine pm_R_lo pm_M178 (pc' := 39) rfl rfl rfl ?_
    refine pm_R_op pm_M178 (pc' := 40) (st' := [.int (-1), .ref 41]) rfl rfl rfl ?_
    refine pm_R_put pm_M178 (pc' := 43) (fs' := [.int 0, .ref 42, .ref 43, .ref 44, .ref 45, .ref 46, .ref 47, .ref 48, .ref 49, .ref 50, .int 0, .int 0, .int 0, .int 0, .int 0, .long 0, .int 0, .int 0, .int 0, .ref 51, .ref 52, .int (-1), .int 0, .int 0, .int 0, .ref 53, .int 0, .int 0, .ref 54, .ref 55, .ref 56, .int 0, .ref 57, .ref 58, .ref 59, .ref 60, .ref 61, .ref 62, .ref 63, .ref 64, .ref 65, .ref 66, .int 0, .int 0, .int 0, .ref 67, .ref 68, .int 0, .ref 69, .int 0, .int 0, .ref 70, .ref 71]) rfl rfl rfl rfl (Nat.le_of_ble_eq_true rfl) (Nat.le_of_ble_eq_true rfl) (Nat.le_of_ble_eq_true rfl) rfl (Or.inl rfl) rfl rfl ?_
    refine pm_R_lo pm_M178 (pc' := 44) rfl rfl rfl ?_
    refine pm_R_op pm_M178 (pc' := 45) (st' := [.int 0, .ref 41]) rfl rfl rfl ?_
    refine pm_R_put pm_M178 (pc' := 48) (fs' := [.int 0, .ref 42, .ref 43, .ref 44, .ref 45, .ref 46, .ref 47, .ref 48, .ref 49, .ref 50, .int 0, .int 0, .int 0, .int 0, .int 0, .long 0, .int 0, .int 0, .int 0, .ref 51, .ref 52, .int (-1), .int 0, .int 0, .int 0, .ref 53, .int 0, .int 0, .ref 54, .ref 55, .ref 56, .int 0, .ref 57, .ref 58, .ref 59, .ref 60, .ref 61, .ref 62, .ref 63, .ref 64, .ref 65, .ref 66, .int 0, .int 0, .int 0, .ref 67, .ref 68, .int 0, .ref 69, .int 0, .int 0, .ref 70, .ref 71]) rfl rfl rfl rfl (Nat.le_of_ble_eq_true rfl) (Nat.le_of_ble_eq_true rfl) (Nat.le_of_ble_eq_true rfl) rfl (Or.inl rfl) rfl rfl ?_
    refine pm_R_lo pm_M178 (pc' := 49) rfl rfl rfl ?_
    refine pm_R_op pm_M178 (pc' := 50) (st' := [.int 0, .ref 41]) rfl rfl rfl ?_
    refine pm_R_put pm_M178 (pc' := 53) (fs' := [.int 0, .ref 42, .ref 43, .ref 44, .ref 45, .ref 46, .ref 47, .ref 48, .ref 49, .ref 50, .int 0, .int 0, .int 0, .int 0, .int 0, .long 0, .int 0, .int 0, .int 0, .ref 51, .ref 52, .int (-1), .int 0, .int 0, .int 0, .ref 53, .int 0, .int 0, .ref 54, .ref 55, .ref 56, .int 0, .ref 57, .ref 58, .ref 59, .ref 60, .ref 61, .ref 62, .ref 63, .ref 64, .ref 65, .ref 66, .int 0, .int 0, .int 0, .ref 67, .ref 68, .int 0, .ref 69, .int 0, .int 0, .ref 70, .ref 71]) rfl rfl rfl rfl (Nat.le_of_ble_eq_true rfl) (Nat.le_of_ble_eq_true rfl) (Nat.le_of_ble_eq_true rfl) rfl (Or.inl rfl) rfl rfl ?_
    refine pm_R_lo pm_M178 (pc' := 54) rfl rfl rfl ?_
    refine pm_R_cv pm_M178 (pc' := 57) (a := 41) (ra := []) (rest := []) (ls' := [.ref 41, pm_no, pm_no]) rfl rfl (Or.inl rfl) pm_M179 rfl rfl (Nat.le_of_ble_eq_true rfl) (Nat.le_of_ble_eq_true rfl) rfl rfl (Nat.le_of_ble_eq_true rfl) rfl rfl ?_
    refine pm_R_lo pm_M179 (pc' := 1) rfl rfl rfl ?_
    refine pm_R_cv pm_M179 (pc' := 4) (a := 41) (ra := []) (rest := []) (ls' := [.ref 41]) rfl rfl (Or.inl rfl) pm_M180 rfl rfl (Nat.le_of_ble_eq_true rfl) (Nat.le_of_ble_eq_true rfl) rfl rfl (Nat.le_of_ble_eq_true rfl) rfl rfl ?_
    refine pm_R_lo pm_M180 (pc' := 1) rfl rfl rfl ?_
    refine pm_R_get pm_M180 (pc' := 4) (v := .int 0) rfl rfl rfl (Nat.le_of_ble_eq_true rfl) (Nat.le_of_ble_eq_true rfl) rfl rfl ?_
    refine pm_R_lo pm_M180 (pc' := 5) rfl rfl rfl ?_
    refine pm_R_get pm_M180 (pc' := 8) (v := .int 0) rfl rfl rfl (Nat.le_of_ble_eq_true rfl) (Nat.le_of_ble_eq_true rfl) rfl rfl ?_
    refine pm_R_br pm_M180 (pc' := 27) (st' := []) rfl rfl ?_
    refine pm_R_op pm_M180 (pc' := 28) (st' := [.int (-1)]) rfl rfl rfl ?_
    refine pm_R_ret pm_M180 (r := some (.int (-1))) rfl rfl ?_
    show pm_R _ 179 4 [.ref 41, pm_no, pm_no] [.int (-1)] _ _
    refine pm_R_op pm_M179 (pc' := 6) (st' := [.int 10, .int (-1)]) rfl rfl rfl ?_
    refine pm_R_br pm_M179 (pc' := 9) (st' := []) rfl rfl ?_
    refine pm_R_lo pm_M179 (pc' := 10) rfl rfl rfl ?_
    refine pm_R_cv pm_M179 (pc' := 13) (a := 41) (ra := []) (rest := []) (ls' := [.ref 41]) rfl rfl (Or.inl rfl) pm_M180 rfl rfl (Nat.le_of_ble_eq_true rfl) (Nat.le_of_ble_eq_true rfl) rfl rfl (Nat.le_of_ble_eq_true rfl) rfl rfl ?_
    refine pm_R_lo pm_M180 (pc' := 1) rfl rfl rfl ?_
    refine pm_R_get pm_M180 (pc' := 4) (v := .int 0) rfl rfl rfl (Nat.le_of_ble_eq_true rfl) (Nat.le_of_ble_eq_true rfl) rfl rfl ?_
    refine pm_R_lo pm_M180 (pc' := 5) rfl rfl rfl ?_
    refine pm_R_get pm_M180 (pc' := 8) (v := .int 0) rfl rfl rfl (Nat.le_of_ble_eq_true rfl) (Nat.le_of_ble_eq_true rfl) rfl rfl ?_
    refine pm_R_br pm_M180 (pc' := 27) (st' := []) rfl rfl ?_
    refine pm_R_op pm_M180 (pc' := 28) (st' := [.int (-1)]) rfl rfl rfl ?_
    refine pm_R_ret pm_M180 (r := some (.int (-1))) rfl rfl ?_
    show pm_R _ 179 13 [.ref 41, pm_no, pm_no] [.int (-1)] _ _
    refine pm_R_op pm_M179 (pc' := 15) (st' := [.int 32, .int (-1)]) rfl rfl rfl ?_
    refine pm_R_br pm_M179 (pc' := 31) (st' := []) rfl rfl ?_
    refine pm_R_lo pm_M179 (pc' := 32) rfl rfl rfl ?_
    refine pm_R_lo pm_M179 (pc' := 33) rfl rfl rfl ?_
    refine pm_R_get pm_M179 (pc' := 36) (v := .int 0) rfl rfl rfl (Nat.le_of_ble_eq_true rfl) (Nat.le_of_ble_eq_true rfl) rfl rfl ?_
    refine pm_R_put pm_M179 (pc' := 39) (fs' := [.int 0, .ref 42, .ref 43, .ref 44, .ref 45, .ref 46, .ref 47, .ref 48, .ref 49, .ref 50, .int 0, .int 0, .int 0, .int 0, .int 0, .long 0, .int 0, .int 0, .int 0, .ref 51, .ref 52, .int (-1), .int 0, .int 0, .int 0, .ref 53, .int 0, .int 0, .ref 54, .ref 55, .ref 56, .int 0, .ref 57, .ref 58, .ref 59, .ref 60, .ref 61, .ref 62, .ref 63, .ref 64, .ref 65, .ref 66, .int 0, .int 0, .int 0, .ref 67, .ref 68, .int 0, .ref 69, .int 0, .int 0, .ref 70, .ref 71]) rfl rfl rfl rfl (Nat.le_of_ble_eq_true rfl) (Nat.le_of_ble_eq_true rfl) (Nat.le_of_ble_eq_true rfl) rfl (Or.inl rfl) rfl rfl ?_
    refine pm_R_lo pm_M179 (pc' := 40) rfl rfl rfl ?_
    refine pm_R_cv pm_M179 (pc' := 43) (a := 41) (ra := []) (rest := []) (ls' := [.ref 41]) rfl rfl (Or.inl rfl) pm_M180 rfl rfl (Nat.le_of_ble_eq_true rfl) (Nat.le_of_ble_eq_true rfl) rfl rfl (Nat.le_of_ble_eq_true rfl) rfl rfl ?_
    refine pm_R_lo pm_M180 (pc' := 1) rfl rfl rfl ?_
    refine pm_R_get pm_M180 (pc' := 4) (v := .int 0) rfl rfl rfl (Nat.le_of_ble_eq_true rfl) (Nat.le_of_ble_eq_true rfl) rfl rfl ?_
    refine pm_R_lo pm_M180 (pc' := 5) rfl rfl rfl ?_
    refine pm_R_get pm_M180 (pc' := 8) (v := .int 0) rfl rfl rfl (Nat.le_of_ble_eq_true rfl) (Nat.le_of_ble_eq_true rfl) rfl rfl ?_
    refine pm_R_br pm_M180 (pc' := 27) (st' := []) rfl rfl ?_
    refine pm_R_op pm_M180 (pc' := 28) (st' := [.int (-1)]) rfl rfl rfl ?_
    refine pm_R_ret pm_M180 (r := some (.int (-1))) rfl rfl ?_
    show pm_R _ 179 43 [.ref 41, pm_no, pm_no] [.int (-1)] _ _
    refine pm_R_lo pm_M179 (pc' := 44) (ls' := [.ref 41, .int (-1), pm_no]) (st' := []) rfl rfl rfl ?_
    refine pm_R_lo pm_M179 (pc' := 45) rfl rfl rfl ?_
    refine pm_R_op pm_M179 (pc' := 46) (st' := [.long 0, .ref 41]) rfl rfl rfl ?_
    refine pm_R_put pm_M179 (pc' := 49) (fs' := [.int 0, .ref 42, .ref 43, .ref 44, .ref 45, .ref 46, .ref 47, .ref 48, .ref 49, .ref 50, .int 0, .int 0, .int 0, .int 0, .int 0, .long 0, .int 0, .int 0, .int 0, .ref 51, .ref 52, .int (-1), .int 0, .int 0, .int 0, .ref 53, .int 0, .int 0, .ref 54, .ref 55, .ref 56, .int 0, .ref 57, .ref 58, .ref 59, .ref 60, .ref 61, .ref 62, .ref 63, .ref 64, .ref 65, .ref 66, .int 0, .int 0, .int 0, .ref 67, .ref 68, .int 0, .ref 69, .int 0, .int 0, .ref 70, .ref 71]) rfl rfl rfl rfl (Nat.le_of_ble_eq_true rfl) (Nat.le_of_ble_eq_true rfl) (Nat.le_of_ble_eq_true rfl) rfl (Or.inl rfl) rfl rfl ?_
    refine pm_R_op pm_M179 (pc' := 50) (st' := [.int 0]) rfl rfl rfl ?_
    refine pm_R_lo pm_M179 (pc' := 51) (ls' := [.ref 41, .int (-1), .int 0]) (st' := []) rfl rfl rfl ?_
    refine pm_R_lo pm_M179 (pc' := 52) rfl rfl rfl ?_
    refine pm_R_br pm_M179 (pc' := 55) (st' := []) rfl rfl ?_
    refine pm_R_lo pm_M179 (pc' := 56) rfl rfl rfl ?_
    refine pm_R_op pm_M179 (pc' := 57) (st' := [.int 0, .ref 41]) rfl rfl rfl ?_
    refine pm_R_put pm_M179 (pc' := 60) (fs' := [.int 0, .ref 42, .ref 43, .ref 44, .ref 45, .ref 46, .ref 47, .ref 48, .ref 49, .ref 50, .int 0, .int 0, .int 0, .int 0, .int 0, .long 0, .int 0, .int 0, .int 0, .ref 51, .ref 52, .int (-1), .int 0, .int 0, .int 0, .ref 53, .int 0, .int 0, .ref 54, .ref 55, .ref 56, .int 0, .ref 57, .ref 58, .ref 59, .ref 60, .ref 61, .ref 62, .ref 63, .ref 64, .ref 65, .ref 66, .int 0, .int 0, .int 0, .ref 67, .ref 68, .int 0, .ref 69, .int 0, .int 0, .ref 70, .ref 71]) rfl rfl rfl rfl (Nat.le_of_ble_eq_true rfl) (Nat.le_of_ble_eq_true rfl) (Nat.le_of_ble_eq_true rfl) rfl (Or.inl rfl) rfl rfl ?_
    refine pm_R_br pm_M179 (pc' := 266) rfl rfl ?_
    refine pm_R_ret pm_M179 (r := none) (pm_q179_2 (Nat.le_of_ble_eq_true rfl)) rfl ?_
    show pm_R _ 178 57 [.ref 41, .int 1, .int 152, pm_no] [] _ _
    refine pm_R_lo pm_M178 (pc' := 58) rfl rfl rfl ?_
    refine pm_R_op pm_M178 (pc' := 59) (st' := [.int 1, .int 1]) rfl rfl rfl ?_
    refine pm_R_br pm_M178 (pc' := 62) (st' := []) rfl rfl ?_
    refine pm_R_lo pm_M178 (pc' := 63) rfl rfl rfl ?_
    refine pm_R_cv pm_M178 (pc' := 66) (a := 41) (ra := []) (rest := []) (ls' := [.ref 41]) rfl rfl (Or.inl rfl) pm_M181 rfl rfl (Nat.le_of_ble_eq_true rfl) (Nat.le_of_ble_eq_true rfl) rfl rfl (Nat.le_of_ble_eq_true rfl) rfl rfl ?_
    refine pm_R_lo pm_M181 (pc' := 1) rfl rfl rfl ?_
    refine pm_R_get pm_M181 (pc' := 4) (v := .int 0) rfl rfl rfl (Nat.le_of_ble_eq_true rfl) (Nat.le_of_ble_eq_true rfl) rfl rfl ?_
    refine pm_R_br pm_M181 (pc' := 61) (st' := []) rfl rfl ?_
    refine pm_R_op pm_M181 (pc' := 62) (st' := [.int 1]) rfl rfl rfl ?_
    refine pm_R_ret pm_M181 (r := some (.int 1)) rfl rfl ?_
    show pm_R _ 178 66 [.ref 41, .int 1, .int 152, pm_no] [.int 1] _ _
    refine pm_R_br pm_M178 (pc' := 74) rfl rfl ?_
    refine pm_R_lo pm_M178 (pc' := 75) (ls' := [.ref 41, .int 1, .int 1, pm_no]) (st' := []) rfl rfl rfl ?_
    refine pm_R_lo pm_M178 (pc' := 76) rfl rfl rfl ?_
    refine pm_R_op pm_M178 (pc' := 77) (st' := [.int 1, .int 1]) rfl rfl rfl ?_
    refine pm_R_br pm_M178 (pc' := 80) (st' := []) rfl rfl ?_
    refine pm_R_lo pm_M178 (pc' := 81) rfl rfl rfl ?_
    refine pm_R_get pm_M178 (pc' := 84) (v := .ref 51) rfl rfl rfl (Nat.le_of_ble_eq_true rfl) (Nat.le_of_ble_eq_true rfl) rfl rfl ?_
    refine pm_R_op pm_M178 (pc' := 85) (st' := [.int 0, .ref 51]) rfl rfl rfl ?_
    refine pm_R_iald pm_M178 (pc' := 86) (v := 0) rfl rfl (Nat.le_of_ble_eq_true rfl) rfl rfl rfl ?_
    refine pm_R_br pm_M178 (pc' := 89) (st' := []) rfl rfl ?_
    refine pm_R_op pm_M178 (pc' := 90) (st' := [.int 1]) rfl rfl rfl ?_
    refine pm_R_br pm_M178 (pc' := 120) rfl rfl ?_
    refine pm_R_lo pm_M178 (pc' := 121) (ls' := [.ref 41, .int 1, .int 1, .int 1]) (st' := []) (pm_q178_1 (Nat.le_of_ble_eq_true rfl)) rfl rfl ?_
    refine pm_R_lo pm_M178 (pc' := 122) (pm_q178_1 (Nat.le_of_ble_eq_true rfl)) rfl rfl ?_
    refine pm_R_br pm_M178 (pc' := 125) (st' := []) (pm_q178_1 (Nat.le_of_ble_eq_true rfl)) rfl ?_
    refine pm_R_lo pm_M178 (pc' := 126) (pm_q178_1 (Nat.le_of_ble_eq_true rfl)) rfl rfl ?_
    refine pm_R_get pm_M178 (pc' := 129) (v := .int 0) (pm_q178_1 (Nat.le_of_ble_eq_true rfl)) rfl rfl (Nat.le_of_ble_eq_true rfl) (Nat.le_of_ble_eq_true rfl) rfl rfl ?_
    refine pm_R_br pm_M178 (pc' := 132) (st' := []) (pm_q178_1 (Nat.le_of_ble_eq_true rfl)) rfl ?_
    refine pm_R_lo pm_M178 (pc' := 133) (pm_q178_1 (Nat.le_of_ble_eq_true rfl)) rfl rfl ?_
    refine pm_R_br pm_M178 (pc' := 136) (st' := []) (pm_q178_1 (Nat.le_of_ble_eq_true rfl)) rfl ?_
    refine pm_R_lo pm_M178 (pc' := 137) (pm_q178_1 (Nat.le_of_ble_eq_true rfl)) rfl rfl ?_
    refine pm_R_op pm_M178 (pc' := 138) (st' := [.int 4, .ref 41]) (pm_q178_1 (Nat.le_of_ble_eq_true rfl)) rfl rfl ?_
    refine pm_R_lo pm_M178 (pc' := 139) (pm_q178_1 (Nat.le_of_ble_eq_true rfl)) rfl rfl ?_
    refine pm_R_get pm_M178 (pc' := 142) (v := .int 0) (pm_q178_1 (Nat.le_of_ble_eq_true rfl)) rfl rfl (Nat.le_of_ble_eq_true rfl) (Nat.le_of_ble_eq_true rfl) rfl rfl ?_
    refine pm_R_cv pm_M178 (pc' := 145) (a := 41) (ra := [.int 0, .int 4]) (rest := []) (ls' := [.ref 41, .int 4, .int 0]) (pm_q178_1 (Nat.le_of_ble_eq_true rfl)) rfl (Or.inl rfl) pm_M182 rfl rfl (Nat.le_of_ble_eq_true rfl) (Nat.le_of_ble_eq_true rfl) rfl rfl (Nat.le_of_ble_eq_true rfl) rfl rfl ?_
    refine pm_R_lo pm_M182 (pc' := 1) rfl rfl rfl ?_
    refine pm_R_get pm_M182 (pc' := 4) (v := .int 0) rfl rfl rfl (Nat.le_of_ble_eq_true rfl) (Nat.le_of_ble_eq_true rfl) rfl rfl ?_
    refine pm_R_br pm_M182 (pc' := 31) (st' := []) rfl rfl ?_
    refine pm_R_lo pm_M182 (pc' := 32) rfl rfl rfl ?_
    refine pm_R_lo pm_M182 (pc' := 33) rfl rfl rfl ?_
    refine pm_R_put pm_M182 (pc' := 36) (fs' := [.int 0, .ref 42, .ref 43, .ref 44, .ref 45, .ref 46, .ref 47, .ref 48, .ref 49, .ref 50, .int 0, .int 0, .int 0, .int 0, .int 0, .long 0, .int 0, .int 4, .int 0, .ref 51, .ref 52, .int (-1), .int 0, .int 0, .int 0, .ref 53, .int 0, .int 0, .ref 54, .ref 55, .ref 56, .int 0, .ref 57, .ref 58, .ref 59, .ref 60, .ref 61, .ref 62, .ref 63, .ref 64, .ref 65, .ref 66, .int 0, .int 0, .int 0, .ref 67, .ref 68, .int 0, .ref 69, .int 0, .int 0, .ref 70, .ref 71]) rfl rfl rfl rfl (Nat.le_of_ble_eq_true rfl) (Nat.le_of_ble_eq_true rfl) (Nat.le_of_ble_eq_true rfl) rfl (Or.inl rfl) rfl rfl ?_
    refine pm_R_lo pm_M182 (pc' := 37) rfl rfl rfl ?_
    refine pm_R_lo pm_M182 (pc' := 38) rfl rfl rfl ?_
    refine pm_R_put pm_M182 (pc' := 41) (fs' := [.int 0, .ref 42, .ref 43, .ref 44, .ref 45, .ref 46, .ref 47, .ref 48, .ref 49, .ref 50, .int 0, .int 0, .int 0, .int 0, .int 0, .long 0, .int 0, .int 4, .int 0, .ref 51, .ref 52, .int (-1), .int 0, .int 0, .int 0, .ref 53, .int 0, .int 0, .ref 54, .ref 55, .ref 56, .int 0, .ref 57, .ref 58, .ref 59, .ref 60, .ref 61, .ref 62, .ref 63, .ref 64, .ref 65, .ref 66, .int 0, .int 0, .int 0, .ref 67, .ref 68, .int 0, .ref 69, .int 0, .int 0, .ref 70, .ref 71]) rfl rfl rfl rfl (Nat.le_of_ble_eq_true rfl) (Nat.le_of_ble_eq_true rfl) (Nat.le_of_ble_eq_true rfl) rfl (Or.inl rfl) rfl rfl ?_
    refine pm_R_ret pm_M182 (r := none) rfl rfl ?_
    show pm_R _ 178 145 [.ref 41, .int 1, .int 1, .int 1] [] _ _
    refine pm_R_lo pm_M178 (pc' := 146) (pm_q178_1 (Nat.le_of_ble_eq_true rfl)) rfl rfl ?_
    refine pm_R_get pm_M178 (pc' := 149) (v := .ref 44) (pm_q178_1 (Nat.le_of_ble_eq_true rfl)) rfl rfl (Nat.le_of_ble_eq_true rfl) (Nat.le_of_ble_eq_true rfl) rfl rfl ?_
    refine pm_R_op pm_M178 (pc' := 150) (st' := [.int 0, .ref 44]) (pm_q178_1 (Nat.le_of_ble_eq_true rfl)) rfl rfl ?_
    refine pm_R_lo pm_M178 (pc' := 151) (pm_q178_1 (Nat.le_of_ble_eq_true rfl)) rfl rfl ?_
    refine pm_R_br pm_M178 (pc' := 154) (st' := [.int 0, .ref 44]) (pm_q178_1 (Nat.le_of_ble_eq_true rfl)) rfl ?_
    refine pm_R_lo pm_M178 (pc' := 155) (pm_q178_1 (Nat.le_of_ble_eq_true rfl)) rfl rfl ?_
    refine pm_R_get pm_M178 (pc' := 158) (v := .int 4) (pm_q178_1 (Nat.le_of_ble_eq_true rfl)) rfl rfl (Nat.le_of_ble_eq_true rfl) (Nat.le_of_ble_eq_true rfl) rfl rfl ?_
    refine pm_R_br pm_M178 (pc' := 162) (pm_q178_1 (Nat.le_of_ble_eq_true rfl)) rfl ?_
    refine pm_R_iast pm_M178 (pc' := 163) (pm_q178_1 (Nat.le_of_ble_eq_true rfl)) rfl (Nat.le_of_ble_eq_true rfl) (Nat.le_of_ble_eq_true rfl) rfl rfl ?_
    refine pm_R_lo pm_M178 (pc' := 164) (pm_q178_1 (Nat.le_of_ble_eq_true rfl)) rfl rfl ?_
    refine pm_R_get pm_M178 (pc' := 167) (v := .ref 45) (pm_q178_1 (Nat.le_of_ble_eq_true rfl)) rfl rfl (Nat.le_of_ble_eq_true rfl) (Nat.le_of_ble_eq_true rfl) rfl rfl ?_
    refine pm_R_op pm_M178 (pc' := 168) (st' := [.int 0, .ref 45]) (pm_q178_1 (Nat.le_of_ble_eq_true rfl)) rfl rfl ?_
    refine pm_R_lo pm_M178 (pc' := 169) (pm_q178_1 (Nat.le_of_ble_eq_true rfl)) rfl rfl ?_
    refine pm_R_br pm_M178 (pc' := 179) (st' := [.int 0, .ref 45]) (pm_q178_1 (Nat.le_of_ble_eq_true rfl)) rfl ?_
    refine pm_R_lo pm_M178 (pc' := 180) (pm_q178_1 (Nat.le_of_ble_eq_true rfl)) rfl rfl ?_
    refine pm_R_get pm_M178 (pc' := 183) (v := .int 4) (pm_q178_1 (Nat.le_of_ble_eq_true rfl)) rfl rfl (Nat.le_of_ble_eq_true rfl) (Nat.le_of_ble_eq_true rfl) rfl rfl ?_
    refine pm_R_br pm_M178 (pc' := 186) (st' := [.int 0, .ref 45]) (pm_q178_1 (Nat.le_of_ble_eq_true rfl)) rfl ?_
    refine pm_R_lo pm_M178 (pc' := 187) (pm_q178_1 (Nat.le_of_ble_eq_true rfl)) rfl rfl ?_
    refine pm_R_get pm_M178 (pc' := 190) (v := .int 0) (pm_q178_1 (Nat.le_of_ble_eq_true rfl)) rfl rfl (Nat.le_of_ble_eq_true rfl) (Nat.le_of_ble_eq_true rfl) rfl rfl ?_
    refine pm_R_br pm_M178 (pc' := 194) (pm_q178_1 (Nat.le_of_ble_eq_true rfl)) rfl ?_
    refine pm_R_iast pm_M178 (pc' := 195) (pm_q178_1 (Nat.le_of_ble_eq_true rfl)) rfl (Nat.le_of_ble_eq_true rfl) (Nat.le_of_ble_eq_true rfl) rfl rfl ?_
    refine pm_R_lo pm_M178 (pc' := 196) (pm_q178_1 (Nat.le_of_ble_eq_true rfl)) rfl rfl ?_
    refine pm_R_get pm_M178 (pc' := 199) (v := .ref 44) (pm_q178_1 (Nat.le_of_ble_eq_true rfl)) rfl rfl (Nat.le_of_ble_eq_true rfl) (Nat.le_of_ble_eq_true rfl) rfl rfl ?_
    refine pm_R_op pm_M178 (pc' := 200) (st' := [.int 0, .ref 44]) (pm_q178_1 (Nat.le_of_ble_eq_true rfl)) rfl rfl ?_
    refine pm_R_iald pm_M178 (pc' := 201) (v := 4) (pm_q178_1 (Nat.le_of_ble_eq_true rfl)) rfl (Nat.le_of_ble_eq_true rfl) rfl rfl rfl ?_
    refine pm_R_br pm_M178 (pc' := 208) (st' := []) (pm_q178_1 (Nat.le_of_ble_eq_true rfl)) rfl ?_
    refine pm_R_op pm_M178 (pc' := 209) (st' := [.int 0]) (pm_q178_1 (Nat.le_of_ble_eq_true rfl)) rfl rfl ?_
    refine pm_R_ret pm_M178 (r := some (.int 0)) (pm_q178_1 (Nat.le_of_ble_eq_true rfl)) rfl ?_
    show pm_R _ 175 83 [.ref 41, .int 1, .int (-1), pm_no] [.int 0] _ _
    refine pm_R_br pm_M175 (pc' := 86) (st' := []) rfl rfl ?_
    refine pm_R_op pm_M175 (pc' := 87) (st' := [.int (-1)]) rfl rfl rfl ?_
    refine pm_R_ret pm_M175 (r := some (.int (-1))) rfl rfl ?_
    show pm_R _ 0 334 [.ref 0, .ref 16, .ref 41, .int 0] [.int (-1), .int (-1)] _ _
    refine pm_R_br pm_M0 (pc' := 2121) (st' := []) (pm_q0_2 (Nat.le_of_ble_eq_true rfl)) rfl ?_
    exact p1_tail (hh 0 (Nat.le_of_ble_eq_true rfl)) (Nat.le_of_ble_eq_true rfl) (Nat.le_of_ble_eq_true rfl) (Nat.le_of_ble_eq_true rfl)
set_option maxRecDepth 100000 in
set_option maxHeartbeats 40000000 in
theorem p1_c2_eq2 (xs : Nat → Int32) (f : Nat → pm_E) (hh : ∀ i, i < 72 → f i = pm_fF 7 xs i) (x0 x1 x2 x3 x4 x5 x6 : Int32) (hx0 : xs 0 = x0) (hx1 : xs 1 = x1) (hx2 : xs 2 = x2) (hx3 : xs 3 = x3) (hx4 : xs 4 = x4) (hx5 : xs 5 = x5) (hx6 : xs 6 = x6) (hv : x1 = 2) : pm_R 100 0 306 [.ref 0, .ref 16, .ref 41, .int 0] [] (72, 52657, f) p1_Q := by
  subst hv
  refine pm_R_lo pm_M0 (pc' := 307) (pm_q0_1 (Nat.le_of_ble_eq_true rfl)) rfl rfl ?_
  refine pm_R_lo pm_M0 (pc' := 308) (pm_q0_1 (Nat.le_of_ble_eq_true rfl)) rfl rfl ?_
  refine pm_R_lo pm_M0 (pc' := 309) (pm_q0_1 (Nat.le_of_ble_eq_true rfl)) rfl rfl ?_
  refine pm_R_op pm_M0 (pc' := 310) (st' := [.int 1, .int 0, .ref 0, .ref 16]) (pm_q0_1 (Nat.le_of_ble_eq_true rfl)) rfl rfl ?_
  refine pm_R_op pm_M0 (pc' := 311) (st' := [.int 1, .ref 0, .ref 16]) (pm_q0_1 (Nat.le_of_ble_eq_true rfl)) rfl rfl ?_
  refine pm_R_iald pm_M0 (pc' := 312) (v := 2) (pm_q0_1 (Nat.le_of_ble_eq_true rfl)) (hh 0 (Nat.le_of_ble_eq_true rfl)) (Nat.le_of_ble_eq_true rfl) rfl hx1 rfl ?_
  refine pm_R_lo pm_M0 (pc' := 313) (pm_q0_1 (Nat.le_of_ble_eq_true rfl)) rfl rfl ?_
  refine pm_R_lo pm_M0 (pc' := 314) (pm_q0_1 (Nat.le_of_ble_eq_true rfl)) rfl rfl ?_
  refine pm_R_op pm_M0 (pc' := 315) (st' := [.int 2, .int 0, .ref 0, .int 2, .ref 16]) (pm_q0_1 (Nat.le_of_ble_eq_true rfl)) rfl rfl ?_
  refine pm_R_op pm_M0 (pc' := 316) (st' := [.int 2, .ref 0, .int 2, .ref 16]) (pm_q0_1 (Nat.le_of_ble_eq_true rfl)) rfl rfl ?_
  refine pm_R_iald pm_M0 (pc' := 317) (v := x2) (pm_q0_1 (Nat.le_of_ble_eq_true rfl)) (hh 0 (Nat.le_of_ble_eq_true rfl)) (Nat.le_of_ble_eq_true rfl) rfl hx2 rfl ?_
  refine pm_R_cv pm_M0 (pc' := 320) (a := 16) (ra := [.int x2, .int 2]) (rest := []) (ls' := [.ref 16, .int 2, .int x2, pm_no, pm_no, pm_no, pm_no]) (pm_q0_1 (Nat.le_of_ble_eq_true rfl)) rfl (Or.inl rfl) pm_M10 (hh 16 (Nat.le_of_ble_eq_true rfl)) rfl (Nat.le_of_ble_eq_true rfl) (Nat.le_of_ble_eq_true rfl) rfl rfl (Nat.le_of_ble_eq_true rfl) rfl rfl ?_
  refine pm_R_lo pm_M10 (pc' := 1) rfl rfl rfl ?_
  refine pm_R_get pm_M10 (pc' := 4) (v := .ref 17) rfl rfl (hh 16 (Nat.le_of_ble_eq_true rfl)) (Nat.le_of_ble_eq_true rfl) (Nat.le_of_ble_eq_true rfl) rfl rfl ?_
  refine pm_R_get pm_M10 (pc' := 7) (v := .int 0) rfl rfl (hh 17 (Nat.le_of_ble_eq_true rfl)) (Nat.le_of_ble_eq_true rfl) (Nat.le_of_ble_eq_true rfl) rfl rfl ?_
  refine pm_R_lo pm_M10 (pc' := 8) (ls' := [.ref 16, .int 2, .int x2, .int 0, pm_no, pm_no, pm_no]) (st' := []) rfl rfl rfl ?_
  refine pm_R_lo pm_M10 (pc' := 9) rfl rfl rfl ?_
  refine pm_R_get pm_M10 (pc' := 12) (v := .ref 17) rfl rfl (hh 16 (Nat.le_of_ble_eq_true rfl)) (Nat.le_of_ble_eq_true rfl) (Nat.le_of_ble_eq_true rfl) rfl rfl ?_
  refine pm_R_op pm_M10 (pc' := 13) (st' := [.int 0, .ref 17]) rfl rfl rfl ?_
  refine pm_R_put pm_M10 (pc' := 16) (fs' := [.ref 18, .int 0, .int 0, .int (-1), .ref 19, .ref 20, .ref 21, .ref 22, .ref 23]) rfl rfl rfl (hh 17 (Nat.le_of_ble_eq_true rfl)) (Nat.le_of_ble_eq_true rfl) (Nat.le_of_ble_eq_true rfl) (Nat.le_of_ble_eq_true rfl) rfl (Or.inl rfl) rfl rfl ?_
  refine pm_R_lo pm_M10 (pc' := 17) rfl rfl rfl ?_
  refine pm_R_get pm_M10 (pc' := 20) (v := .ref 17) rfl rfl (hh 16 (Nat.le_of_ble_eq_true rfl)) (Nat.le_of_ble_eq_true rfl) (Nat.le_of_ble_eq_true rfl) rfl rfl ?_
  refine pm_R_op pm_M10 (pc' := 21) (st' := [.int 0, .ref 17]) rfl rfl rfl ?_
  refine pm_R_put pm_M10 (pc' := 24) (fs' := [.ref 18, .int 0, .int 0, .int (-1), .ref 19, .ref 20, .ref 21, .ref 22, .ref 23]) rfl rfl rfl rfl (Nat.le_of_ble_eq_true rfl) (Nat.le_of_ble_eq_true rfl) (Nat.le_of_ble_eq_true rfl) rfl (Or.inl rfl) rfl rfl ?_
  refine pm_R_lo pm_M10 (pc' := 25) rfl rfl rfl ?_
  refine pm_R_get pm_M10 (pc' := 28) (v := .ref 17) rfl rfl (hh 16 (Nat.le_of_ble_eq_true rfl)) (Nat.le_of_ble_eq_true rfl) (Nat.le_of_ble_eq_true rfl) rfl rfl ?_
  refine pm_R_op pm_M10 (pc' := 29) (st' := [.int (-1), .ref 17]) rfl rfl rfl ?_
  refine pm_R_put pm_M10 (pc' := 32) (fs' := [.ref 18, .int 0, .int 0, .int (-1), .ref 19, .ref 20, .ref 21, .ref 22, .ref 23]) rfl rfl rfl rfl (Nat.le_of_ble_eq_true rfl) (Nat.le_of_ble_eq_true rfl) (Nat.le_of_ble_eq_true rfl) rfl (Or.inl rfl) rfl rfl ?_
  refine pm_R_lo pm_M10 (pc' := 33) rfl rfl rfl ?_
  refine pm_R_br pm_M10 (pc' := 36) (st' := []) rfl rfl ?_
  refine pm_R_lo pm_M10 (pc' := 37) rfl rfl rfl ?_
  refine pm_R_op pm_M10 (pc' := 38) (st' := [.int 4, .int 2]) rfl rfl rfl ?_
  refine pm_R_br pm_M10 (pc' := 44) (st' := []) rfl rfl ?_
  refine pm_R_lo pm_M10 (pc' := 45) rfl rfl rfl ?_
  refine pm_R_get pm_M10 (pc' := 48) (v := .ref 17) rfl rfl (hh 16 (Nat.le_of_ble_eq_true rfl)) (Nat.le_of_ble_eq_true rfl) (Nat.le_of_ble_eq_true rfl) rfl rfl ?_
  refine pm_R_get pm_M10 (pc' := 51) (v := .ref 23) rfl rfl rfl (Nat.le_of_ble_eq_true rfl) (Nat.le_of_ble_eq_true rfl) rfl rfl ?_
  refine pm_R_lo pm_M10 (pc' := 52) rfl rfl rfl ?_
  refine pm_R_iald pm_M10 (pc' := 53) (v := 0) rfl (hh 23 (Nat.le_of_ble_eq_true rfl)) (Nat.le_of_ble_eq_true rfl) rfl rfl rfl ?_
  refine pm_R_lo pm_M10 (pc' := 55) (ls' := [.ref 16, .int 2, .int x2, .int 0, .int 0, pm_no, pm_no]) (st' := []) rfl rfl rfl ?_
  refine pm_R_lo pm_M10 (pc' := 56) rfl rfl rfl ?_
  refine pm_R_op pm_M10 (pc' := 57) (st' := [.int (-1), .int x2]) rfl rfl rfl ?_
  refine pm_R_icmp pm_M10 (t := 64) (pc' := 60) rfl rfl rfl (fun c_1 => ?_) (fun c_1 => ?_)
  · refine pm_R_op pm_M10 (pc' := 65) (st' := [.int 0]) rfl rfl rfl ?_
    refine pm_R_lo pm_M10 (pc' := 67) (ls' := [.ref 16, .int 2, .int x2, .int 0, .int 0, .int 0, pm_no]) (st' := []) rfl rfl rfl ?_
    refine pm_R_lo pm_M10 (pc' := 69) rfl rfl rfl ?_
    refine pm_R_br pm_M10 (pc' := 85) (st' := []) rfl rfl ?_
    refine pm_R_lo pm_M10 (pc' := 86) rfl rfl rfl ?_
    refine pm_R_ifc pm_M10 (t := 95) (pc' := 89) rfl rfl rfl (fun c_2 => ?_) (fun c_2 => ?_)
    · refine pm_R_op pm_M10 (pc' := 97) (st' := [.int (-2)]) rfl rfl rfl ?_
      refine pm_R_ret pm_M10 (r := some (.int (-2))) rfl rfl ?_
      show pm_R _ 0 320 [.ref 0, .ref 16, .ref 41, .int 0] [.int (-2)] _ _
      refine pm_R_lo pm_M0 (pc' := 321) (pm_q0_1 (Nat.le_of_ble_eq_true rfl)) rfl rfl ?_
      refine pm_R_lo pm_M0 (pc' := 322) (pm_q0_1 (Nat.le_of_ble_eq_true rfl)) rfl rfl ?_
      refine pm_R_lo pm_M0 (pc' := 323) (pm_q0_1 (Nat.le_of_ble_eq_true rfl)) rfl rfl ?_
      refine pm_R_op pm_M0 (pc' := 324) (st' := [.int 1, .int 0, .ref 0, .ref 41, .int (-2)]) (pm_q0_1 (Nat.le_of_ble_eq_true rfl)) rfl rfl ?_
      refine pm_R_op pm_M0 (pc' := 325) (st' := [.int 1, .ref 0, .ref 41, .int (-2)]) (pm_q0_1 (Nat.le_of_ble_eq_true rfl)) rfl rfl ?_
      refine pm_R_iald pm_M0 (pc' := 326) (v := 2) (pm_q0_1 (Nat.le_of_ble_eq_true rfl)) (hh 0 (Nat.le_of_ble_eq_true rfl)) (Nat.le_of_ble_eq_true rfl) rfl hx1 rfl ?_
      refine pm_R_lo pm_M0 (pc' := 327) (pm_q0_1 (Nat.le_of_ble_eq_true rfl)) rfl rfl ?_
      refine pm_R_lo pm_M0 (pc' := 328) (pm_q0_1 (Nat.le_of_ble_eq_true rfl)) rfl rfl ?_
      refine pm_R_op pm_M0 (pc' := 329) (st' := [.int 2, .int 0, .ref 0, .int 2, .ref 41, .int (-2)]) (pm_q0_1 (Nat.le_of_ble_eq_true rfl)) rfl rfl ?_
      refine pm_R_op pm_M0 (pc' := 330) (st' := [.int 2, .ref 0, .int 2, .ref 41, .int (-2)]) (pm_q0_1 (Nat.le_of_ble_eq_true rfl)) rfl rfl ?_
      refine pm_R_iald pm_M0 (pc' := 331) (v := x2) (pm_q0_1 (Nat.le_of_ble_eq_true rfl)) (hh 0 (Nat.le_of_ble_eq_true rfl)) (Nat.le_of_ble_eq_true rfl) rfl hx2 rfl ?_
      refine pm_R_cv pm_M0 (pc' := 334) (a := 41) (ra := [.int x2, .int 2]) (rest := [.int (-2)]) (ls' := [.ref 41, .int 2, .int x2, pm_no]) (pm_q0_1 (Nat.le_of_ble_eq_true rfl)) rfl (Or.inl rfl) pm_M175 (hh 41 (Nat.le_of_ble_eq_true rfl)) rfl (Nat.le_of_ble_eq_true rfl) (Nat.le_of_ble_eq_true rfl) rfl rfl (Nat.le_of_ble_eq_true rfl) rfl rfl ?_
      refine pm_R_lo pm_M175 (pc' := 1) rfl rfl rfl ?_
      refine pm_R_op pm_M175 (pc' := 2) (st' := [.int 0, .ref 41]) rfl rfl rfl ?_
      refine pm_R_put pm_M175 (pc' := 5) (fs' := [.int 0, .ref 42, .ref 43, .ref 44, .ref 45, .ref 46, .ref 47, .ref 48, .ref 49, .ref 50, .int 0, .int 0, .int 0, .int 0, .int 0, .long 0, .int 0, .int 0, .int 0, .ref 51, .ref 52, .int 0, .int 0, .int 0, .int 0, .ref 53, .int 0, .int 0, .ref 54, .ref 55, .ref 56, .int 0, .ref 57, .ref 58, .ref 59, .ref 60, .ref 61, .ref 62, .ref 63, .ref 64, .ref 65, .ref 66, .int 0, .int 0, .int 0, .ref 67, .ref 68, .int 0, .ref 69, .int 0, .int 0, .ref 70, .ref 71]) rfl rfl rfl (hh 41 (Nat.le_of_ble_eq_true rfl)) (Nat.le_of_ble_eq_true rfl) (Nat.le_of_ble_eq_true rfl) (Nat.le_of_ble_eq_true rfl) rfl (Or.inl rfl) rfl rfl ?_
      refine pm_R_lo pm_M175 (pc' := 6) rfl rfl rfl ?_
      refine pm_R_lo pm_M175 (pc' := 7) rfl rfl rfl ?_
      refine pm_R_get pm_M175 (pc' := 10) (v := .ref 43) rfl rfl rfl (Nat.le_of_ble_eq_true rfl) (Nat.le_of_ble_eq_true rfl) rfl rfl ?_
      refine pm_R_op pm_M175 (pc' := 11) (st' := [.int 0, .ref 43, .ref 41]) rfl rfl rfl ?_
      refine pm_R_iald pm_M175 (pc' := 12) (v := 0) rfl (hh 43 (Nat.le_of_ble_eq_true rfl)) (Nat.le_of_ble_eq_true rfl) rfl rfl rfl ?_
      refine pm_R_put pm_M175 (pc' := 15) (fs' := [.int 0, .ref 42, .ref 43, .ref 44, .ref 45, .ref 46, .ref 47, .ref 48, .ref 49, .ref 50, .int 0, .int 0, .int 0, .int 0, .int 0, .long 0, .int 0, .int 0, .int 0, .ref 51, .ref 52, .int 0, .int 0, .int 0, .int 0, .ref 53, .int 0, .int 0, .ref 54, .ref 55, .ref 56, .int 0, .ref 57, .ref 58, .ref 59, .ref 60, .ref 61, .ref 62, .ref 63, .ref 64, .ref 65, .ref 66, .int 0, .int 0, .int 0, .ref 67, .ref 68, .int 0, .ref 69, .int 0, .int 0, .ref 70, .ref 71]) rfl rfl rfl rfl (Nat.le_of_ble_eq_true rfl) (Nat.le_of_ble_eq_true rfl) (Nat.le_of_ble_eq_true rfl) rfl (Or.inl rfl) rfl rfl ?_
      refine pm_R_lo pm_M175 (pc' := 16) rfl rfl rfl ?_
      refine pm_R_get pm_M175 (pc' := 19) (v := .ref 43) rfl rfl rfl (Nat.le_of_ble_eq_true rfl) (Nat.le_of_ble_eq_true rfl) rfl rfl ?_
      refine pm_R_op pm_M175 (pc' := 20) (st' := [.int 0, .ref 43]) rfl rfl rfl ?_
      refine pm_R_op pm_M175 (pc' := 21) (st' := [.int 0, .int 0, .ref 43]) rfl rfl rfl ?_
      refine pm_R_iast pm_M175 (pc' := 22) rfl (hh 43 (Nat.le_of_ble_eq_true rfl)) (Nat.le_of_ble_eq_true rfl) (Nat.le_of_ble_eq_true rfl) rfl rfl ?_
      refine pm_R_lo pm_M175 (pc' := 23) rfl rfl rfl ?_
      refine pm_R_get pm_M175 (pc' := 26) (v := .ref 44) rfl rfl rfl (Nat.le_of_ble_eq_true rfl) (Nat.le_of_ble_eq_true rfl) rfl rfl ?_
      refine pm_R_op pm_M175 (pc' := 27) (st' := [.int 0, .ref 44]) rfl rfl rfl ?_
      refine pm_R_op pm_M175 (pc' := 28) (st' := [.int 0, .int 0, .ref 44]) rfl rfl rfl ?_
      refine pm_R_iast pm_M175 (pc' := 29) rfl (hh 44 (Nat.le_of_ble_eq_true rfl)) (Nat.le_of_ble_eq_true rfl) (Nat.le_of_ble_eq_true rfl) rfl rfl ?_
      refine pm_R_lo pm_M175 (pc' := 30) rfl rfl rfl ?_
      refine pm_R_get pm_M175 (pc' := 33) (v := .ref 45) rfl rfl rfl (Nat.le_of_ble_eq_true rfl) (Nat.le_of_ble_eq_true rfl) rfl rfl ?_
      refine pm_R_op pm_M175 (pc' := 34) (st' := [.int 0, .ref 45]) rfl rfl rfl ?_
      refine pm_R_op pm_M175 (pc' := 35) (st' := [.int (-1), .int 0, .ref 45]) rfl rfl rfl ?_
      refine pm_R_iast pm_M175 (pc' := 36) rfl (hh 45 (Nat.le_of_ble_eq_true rfl)) (Nat.le_of_ble_eq_true rfl) (Nat.le_of_ble_eq_true rfl) rfl rfl ?_
      refine pm_R_lo pm_M175 (pc' := 37) rfl rfl rfl ?_
      refine pm_R_op pm_M175 (pc' := 38) (st' := [.int 0, .int 2]) rfl rfl rfl ?_
      refine pm_R_op pm_M175 (pc' := 39) (st' := [.int 3, .int 0, .int 2]) rfl rfl rfl ?_
      refine pm_R_cs pm_M175 (pc' := 42) (ra := [.int 3, .int 0, .int 2]) (rest := []) (ls' := [.int 2, .int 0, .int 3]) rfl rfl (Or.inl rfl) pm_M174 rfl rfl (Nat.le_of_ble_eq_true rfl) rfl rfl ?_
      refine pm_R_lo pm_M174 (pc' := 1) rfl rfl rfl ?_
      refine pm_R_lo pm_M174 (pc' := 2) rfl rfl rfl ?_
      refine pm_R_br pm_M174 (pc' := 5) (st' := []) rfl rfl ?_
      refine pm_R_lo pm_M174 (pc' := 6) rfl rfl rfl ?_
      refine pm_R_lo pm_M174 (pc' := 7) rfl rfl rfl ?_
      refine pm_R_br pm_M174 (pc' := 10) (st' := []) rfl rfl ?_
      refine pm_R_op pm_M174 (pc' := 11) (st' := [.int 1]) rfl rfl rfl ?_
      refine pm_R_br pm_M174 (pc' := 15) rfl rfl ?_
      refine pm_R_ret pm_M174 (r := some (.int 1)) rfl rfl ?_
      show pm_R _ 175 42 [.ref 41, .int 2, .int x2, pm_no] [.int 1] _ _
      refine pm_R_br pm_M175 (pc' := 45) (st' := []) rfl rfl ?_
      refine pm_R_lo pm_M175 (pc' := 46) rfl rfl rfl ?_
      refine pm_R_op pm_M175 (pc' := 47) (st' := [.int (-1), .int x2]) rfl rfl rfl ?_
      refine pm_R_icmp pm_M175 (t := 66) (pc' := 50) rfl rfl rfl (fun c_3 => ?_) (fun c_3 => by exact absurd c_1 c_3)
      refine pm_R_lo pm_M175 (pc' := 67) rfl rfl rfl ?_
      refine pm_R_lo pm_M175 (pc' := 68) rfl rfl rfl ?_
      refine pm_R_lo pm_M175 (pc' := 69) rfl rfl rfl ?_
      refine pm_R_cv pm_M175 (pc' := 72) (a := 41) (ra := [.int x2, .int 2]) (rest := []) (ls' := [.ref 41, .int 2, .int x2]) rfl rfl (Or.inl rfl) pm_M177 rfl rfl (Nat.le_of_ble_eq_true rfl) (Nat.le_of_ble_eq_true rfl) rfl rfl (Nat.le_of_ble_eq_true rfl) rfl rfl ?_
      refine pm_R_lo pm_M177 (pc' := 1) rfl rfl rfl ?_
      refine pm_R_op pm_M177 (pc' := 2) (st' := [.int 0, .int x2]) rfl rfl rfl ?_
      refine pm_R_lo pm_M177 (pc' := 3) rfl rfl rfl ?_
      refine pm_R_get pm_M177 (pc' := 6) (v := .ref 46) rfl rfl rfl (Nat.le_of_ble_eq_true rfl) (Nat.le_of_ble_eq_true rfl) rfl rfl ?_
      refine pm_R_lo pm_M177 (pc' := 7) rfl rfl rfl ?_
      refine pm_R_iald pm_M177 (pc' := 8) (v := 0) rfl (hh 46 (Nat.le_of_ble_eq_true rfl)) (Nat.le_of_ble_eq_true rfl) rfl rfl rfl ?_
      refine pm_R_op pm_M177 (pc' := 9) (st' := [.int 1, .int 0, .int 0, .int x2]) rfl rfl rfl ?_
      refine pm_R_op pm_M177 (pc' := 10) (st' := [.int (-1), .int 0, .int x2]) rfl rfl rfl ?_
      refine pm_R_cs pm_M177 (pc' := 13) (ra := [.int (-1), .int 0, .int x2]) (rest := []) (ls' := [.int x2, .int 0, .int (-1)]) rfl rfl (Or.inl rfl) pm_M174 rfl rfl (Nat.le_of_ble_eq_true rfl) rfl rfl ?_
      refine pm_R_lo pm_M174 (pc' := 1) rfl rfl rfl ?_
      refine pm_R_lo pm_M174 (pc' := 2) rfl rfl rfl ?_
      refine pm_R_icmp pm_M174 (t := 14) (pc' := 5) rfl rfl rfl (fun c_4 => ?_) (fun c_4 => by exact absurd c_2 c_4)
      refine pm_R_op pm_M174 (pc' := 15) (st' := [.int 0]) rfl rfl rfl ?_
      refine pm_R_ret pm_M174 (r := some (.int 0)) rfl rfl ?_
      show pm_R _ 177 13 [.ref 41, .int 2, .int x2] [.int 0] _ _
      refine pm_R_ret pm_M177 (r := some (.int 0)) rfl rfl ?_
      show pm_R _ 175 72 [.ref 41, .int 2, .int x2, pm_no] [.int 0] _ _
      refine pm_R_br pm_M175 (pc' := 75) (st' := []) rfl rfl ?_
      refine pm_R_op pm_M175 (pc' := 77) (st' := [.int (-2)]) rfl rfl rfl ?_
      refine pm_R_ret pm_M175 (r := some (.int (-2))) rfl rfl ?_
      show pm_R _ 0 334 [.ref 0, .ref 16, .ref 41, .int 0] [.int (-2), .int (-2)] _ _
      refine pm_R_br pm_M0 (pc' := 2121) (st' := []) (pm_q0_2 (Nat.le_of_ble_eq_true rfl)) rfl ?_
      exact p1_tail (hh 0 (Nat.le_of_ble_eq_true rfl)) (Nat.le_of_ble_eq_true rfl) (Nat.le_of_ble_eq_true rfl) (Nat.le_of_ble_eq_true rfl)
    · refine pm_R_lo pm_M10 (pc' := 90) rfl rfl rfl ?_
      refine pm_R_lo pm_M10 (pc' := 92) rfl rfl rfl ?_
      refine pm_R_icmp pm_M10 (t := 98) (pc' := 95) rfl rfl rfl (fun c_5 => by exact absurd c_5 c_2) (fun c_5 => ?_)
      refine pm_R_op pm_M10 (pc' := 97) (st' := [.int (-2)]) rfl rfl rfl ?_
      refine pm_R_ret pm_M10 (r := some (.int (-2))) rfl rfl ?_
      show pm_R _ 0 320 [.ref 0, .ref 16, .ref 41, .int 0] [.int (-2)] _ _
      refine pm_R_lo pm_M0 (pc' := 321) (pm_q0_1 (Nat.le_of_ble_eq_true rfl)) rfl rfl ?_
      refine pm_R_lo pm_M0 (pc' := 322) (pm_q0_1 (Nat.le_of_ble_eq_true rfl)) rfl rfl ?_
      refine pm_R_lo pm_M0 (pc' := 323) (pm_q0_1 (Nat.le_of_ble_eq_true rfl)) rfl rfl ?_
      refine pm_R_op pm_M0 (pc' := 324) (st' := [.int 1, .int 0, .ref 0, .ref 41, .int (-2)]) (pm_q0_1 (Nat.le_of_ble_eq_true rfl)) rfl rfl ?_
      refine pm_R_op pm_M0 (pc' := 325) (st' := [.int 1, .ref 0, .ref 41, .int (-2)]) (pm_q0_1 (Nat.le_of_ble_eq_true rfl)) rfl rfl ?_
      refine pm_R_iald pm_M0 (pc' := 326) (v := 2) (pm_q0_1 (Nat.le_of_ble_eq_true rfl)) (hh 0 (Nat.le_of_ble_eq_true rfl)) (Nat.le_of_ble_eq_true rfl) rfl hx1 rfl ?_
      refine pm_R_lo pm_M0 (pc' := 327) (pm_q0_1 (Nat.le_of_ble_eq_true rfl)) rfl rfl ?_
      refine pm_R_lo pm_M0 (pc' := 328) (pm_q0_1 (Nat.le_of_ble_eq_true rfl)) rfl rfl ?_
      refine pm_R_op pm_M0 (pc' := 329) (st' := [.int 2, .int 0, .ref 0, .int 2, .ref 41, .int (-2)]) (pm_q0_1 (Nat.le_of_ble_eq_true rfl)) rfl rfl ?_
      refine pm_R_op pm_M0 (pc' := 330) (st' := [.int 2, .ref 0, .int 2, .ref 41, .int (-2)]) (pm_q0_1 (Nat.le_of_ble_eq_true rfl)) rfl rfl ?_
      refine pm_R_iald pm_M0 (pc' := 331) (v := x2) (pm_q0_1 (Nat.le_of_ble_eq_true rfl)) (hh 0 (Nat.le_of_ble_eq_true rfl)) (Nat.le_of_ble_eq_true rfl) rfl hx2 rfl ?_
      refine pm_R_cv pm_M0 (pc' := 334) (a := 41) (ra := [.int x2, .int 2]) (rest := [.int (-2)]) (ls' := [.ref 41, .int 2, .int x2, pm_no]) (pm_q0_1 (Nat.le_of_ble_eq_true rfl)) rfl (Or.inl rfl) pm_M175 (hh 41 (Nat.le_of_ble_eq_true rfl)) rfl (Nat.le_of_ble_eq_true rfl) (Nat.le_of_ble_eq_true rfl) rfl rfl (Nat.le_of_ble_eq_true rfl) rfl rfl ?_
      refine pm_R_lo pm_M175 (pc' := 1) rfl rfl rfl ?_
      refine pm_R_op pm_M175 (pc' := 2) (st' := [.int 0, .ref 41]) rfl rfl rfl ?_
      refine pm_R_put pm_M175 (pc' := 5) (fs' := [.int 0, .ref 42, .ref 43, .ref 44, .ref 45, .ref 46, .ref 47, .ref 48, .ref 49, .ref 50, .int 0, .int 0, .int 0, .int 0, .int 0, .long 0, .int 0, .int 0, .int 0, .ref 51, .ref 52, .int 0, .int 0, .int 0, .int 0, .ref 53, .int 0, .int 0, .ref 54, .ref 55, .ref 56, .int 0, .ref 57, .ref 58, .ref 59, .ref 60, .ref 61, .ref 62, .ref 63, .ref 64, .ref 65, .ref 66, .int 0, .int 0, .int 0, .ref 67, .ref 68, .int 0, .ref 69, .int 0, .int 0, .ref 70, .ref 71]) rfl rfl rfl (hh 41 (Nat.le_of_ble_eq_true rfl)) (Nat.le_of_ble_eq_true rfl) (Nat.le_of_ble_eq_true rfl) (Nat.le_of_ble_eq_true rfl) rfl (Or.inl rfl) rfl rfl ?_
      refine pm_R_lo pm_M175 (pc' := 6) rfl rfl rfl ?_
      refine pm_R_lo pm_M175 (pc' := 7) rfl rfl rfl ?_
      refine pm_R_get pm_M175 (pc' := 10) (v := .ref 43) rfl rfl rfl (Nat.le_of_ble_eq_true rfl) (Nat.le_of_ble_eq_true rfl) rfl rfl ?_
      refine pm_R_op pm_M175 (pc' := 11) (st' := [.int 0, .ref 43, .ref 41]) rfl rfl rfl ?_
      refine pm_R_iald pm_M175 (pc' := 12) (v := 0) rfl (hh 43 (Nat.le_of_ble_eq_true rfl)) (Nat.le_of_ble_eq_true rfl) rfl rfl rfl ?_
      refine pm_R_put pm_M175 (pc' := 15) (fs' := [.int 0, .ref 42, .ref 43, .ref 44, .ref 45, .ref 46, .ref 47, .ref 48, .ref 49, .ref 50, .int 0, .int 0, .int 0, .int 0, .int 0, .long 0, .int 0, .int 0, .int 0, .ref 51, .ref 52, .int 0, .int 0, .int 0, .int 0, .ref 53, .int 0, .int 0, .ref 54, .ref 55, .ref 56, .int 0, .ref 57, .ref 58, .ref 59, .ref 60, .ref 61, .ref 62, .ref 63, .ref 64, .ref 65, .ref 66, .int 0, .int 0, .int 0, .ref 67, .ref 68, .int 0, .ref 69, .int 0, .int 0, .ref 70, .ref 71]) rfl rfl rfl rfl (Nat.le_of_ble_eq_true rfl) (Nat.le_of_ble_eq_true rfl) (Nat.le_of_ble_eq_true rfl) rfl (Or.inl rfl) rfl rfl ?_
      refine pm_R_lo pm_M175 (pc' := 16) rfl rfl rfl ?_
      refine pm_R_get pm_M175 (pc' := 19) (v := .ref 43) rfl rfl rfl (Nat.le_of_ble_eq_true rfl) (Nat.le_of_ble_eq_true rfl) rfl rfl ?_
      refine pm_R_op pm_M175 (pc' := 20) (st' := [.int 0, .ref 43]) rfl rfl rfl ?_
      refine pm_R_op pm_M175 (pc' := 21) (st' := [.int 0, .int 0, .ref 43]) rfl rfl rfl ?_
      refine pm_R_iast pm_M175 (pc' := 22) rfl (hh 43 (Nat.le_of_ble_eq_true rfl)) (Nat.le_of_ble_eq_true rfl) (Nat.le_of_ble_eq_true rfl) rfl rfl ?_
      refine pm_R_lo pm_M175 (pc' := 23) rfl rfl rfl ?_
      refine pm_R_get pm_M175 (pc' := 26) (v := .ref 44) rfl rfl rfl (Nat.le_of_ble_eq_true rfl) (Nat.le_of_ble_eq_true rfl) rfl rfl ?_
      refine pm_R_op pm_M175 (pc' := 27) (st' := [.int 0, .ref 44]) rfl rfl rfl ?_
      refine pm_R_op pm_M175 (pc' := 28) (st' := [.int 0, .int 0, .ref 44]) rfl rfl rfl ?_
      refine pm_R_iast pm_M175 (pc' := 29) rfl (hh 44 (Nat.le_of_ble_eq_true rfl)) (Nat.le_of_ble_eq_true rfl) (Nat.le_of_ble_eq_true rfl) rfl rfl ?_
      refine pm_R_lo pm_M175 (pc' := 30) rfl rfl rfl ?_
      refine pm_R_get pm_M175 (pc' := 33) (v := .ref 45) rfl rfl rfl (Nat.le_of_ble_eq_true rfl) (Nat.le_of_ble_eq_true rfl) rfl rfl ?_
      refine pm_R_op pm_M175 (pc' := 34) (st' := [.int 0, .ref 45]) rfl rfl rfl ?_
      refine pm_R_op pm_M175 (pc' := 35) (st' := [.int (-1), .int 0, .ref 45]) rfl rfl rfl ?_
      refine pm_R_iast pm_M175 (pc' := 36) rfl (hh 45 (Nat.le_of_ble_eq_true rfl)) (Nat.le_of_ble_eq_true rfl) (Nat.le_of_ble_eq_true rfl) rfl rfl ?_
      refine pm_R_lo pm_M175 (pc' := 37) rfl rfl rfl ?_
      refine pm_R_op pm_M175 (pc' := 38) (st' := [.int 0, .int 2]) rfl rfl rfl ?_
      refine pm_R_op pm_M175 (pc' := 39) (st' := [.int 3, .int 0, .int 2]) rfl rfl rfl ?_
      refine pm_R_cs pm_M175 (pc' := 42) (ra := [.int 3, .int 0, .int 2]) (rest := []) (ls' := [.int 2, .int 0, .int 3]) rfl rfl (Or.inl rfl) pm_M174 rfl rfl (Nat.le_of_ble_eq_true rfl) rfl rfl ?_
      refine pm_R_lo pm_M174 (pc' := 1) rfl rfl rfl ?_
      refine pm_R_lo pm_M174 (pc' := 2) rfl rfl rfl ?_
      refine pm_R_br pm_M174 (pc' := 5) (st' := []) rfl rfl ?_
      refine pm_R_lo pm_M174 (pc' := 6) rfl rfl rfl ?_
      refine pm_R_lo pm_M174 (pc' := 7) rfl rfl rfl ?_
      refine pm_R_br pm_M174 (pc' := 10) (st' := []) rfl rfl ?_
      refine pm_R_op pm_M174 (pc' := 11) (st' := [.int 1]) rfl rfl rfl ?_
      refine pm_R_br pm_M174 (pc' := 15) rfl rfl ?_
      refine pm_R_ret pm_M174 (r := some (.int 1)) rfl rfl ?_
      show pm_R _ 175 42 [.ref 41, .int 2, .int x2, pm_no] [.int 1] _ _
      refine pm_R_br pm_M175 (pc' := 45) (st' := []) rfl rfl ?_
      refine pm_R_lo pm_M175 (pc' := 46) rfl rfl rfl ?_
      refine pm_R_op pm_M175 (pc' := 47) (st' := [.int (-1), .int x2]) rfl rfl rfl ?_
      refine pm_R_icmp pm_M175 (t := 66) (pc' := 50) rfl rfl rfl (fun c_6 => ?_) (fun c_6 => by exact absurd c_1 c_6)
      refine pm_R_lo pm_M175 (pc' := 67) rfl rfl rfl ?_
      refine pm_R_lo pm_M175 (pc' := 68) rfl rfl rfl ?_
      refine pm_R_lo pm_M175 (pc' := 69) rfl rfl rfl ?_
      refine pm_R_cv pm_M175 (pc' := 72) (a := 41) (ra := [.int x2, .int 2]) (rest := []) (ls' := [.ref 41, .int 2, .int x2]) rfl rfl (Or.inl rfl) pm_M177 rfl rfl (Nat.le_of_ble_eq_true rfl) (Nat.le_of_ble_eq_true rfl) rfl rfl (Nat.le_of_ble_eq_true rfl) rfl rfl ?_
      refine pm_R_lo pm_M177 (pc' := 1) rfl rfl rfl ?_
      refine pm_R_op pm_M177 (pc' := 2) (st' := [.int 0, .int x2]) rfl rfl rfl ?_
      refine pm_R_lo pm_M177 (pc' := 3) rfl rfl rfl ?_
      refine pm_R_get pm_M177 (pc' := 6) (v := .ref 46) rfl rfl rfl (Nat.le_of_ble_eq_true rfl) (Nat.le_of_ble_eq_true rfl) rfl rfl ?_
      refine pm_R_lo pm_M177 (pc' := 7) rfl rfl rfl ?_
      refine pm_R_iald pm_M177 (pc' := 8) (v := 0) rfl (hh 46 (Nat.le_of_ble_eq_true rfl)) (Nat.le_of_ble_eq_true rfl) rfl rfl rfl ?_
      refine pm_R_op pm_M177 (pc' := 9) (st' := [.int 1, .int 0, .int 0, .int x2]) rfl rfl rfl ?_
      refine pm_R_op pm_M177 (pc' := 10) (st' := [.int (-1), .int 0, .int x2]) rfl rfl rfl ?_
      refine pm_R_cs pm_M177 (pc' := 13) (ra := [.int (-1), .int 0, .int x2]) (rest := []) (ls' := [.int x2, .int 0, .int (-1)]) rfl rfl (Or.inl rfl) pm_M174 rfl rfl (Nat.le_of_ble_eq_true rfl) rfl rfl ?_
      refine pm_R_lo pm_M174 (pc' := 1) rfl rfl rfl ?_
      refine pm_R_lo pm_M174 (pc' := 2) rfl rfl rfl ?_
      refine pm_R_icmp pm_M174 (t := 14) (pc' := 5) rfl rfl rfl (fun c_7 => by exact absurd c_7 c_2) (fun c_7 => ?_)
      refine pm_R_lo pm_M174 (pc' := 6) rfl rfl rfl ?_
      refine pm_R_lo pm_M174 (pc' := 7) rfl rfl rfl ?_
      refine pm_R_icmp pm_M174 (t := 14) (pc' := 10) rfl rfl rfl (fun c_8 => ?_) (fun c_8 => by have z0 : ((-1) : Int32).toInt = -1 := (by decide); have z1 : ((0) : Int32).toInt = 0 := (by decide); have q0 := (Int32.le_iff_toInt_le.mp (Int32.not_lt.mp c_2)); have q1 := (Int32.le_iff_toInt_le.mp (Int32.not_lt.mp c_8)); exfalso; omega)
      refine pm_R_op pm_M174 (pc' := 15) (st' := [.int 0]) rfl rfl rfl ?_
      refine pm_R_ret pm_M174 (r := some (.int 0)) rfl rfl ?_
      show pm_R _ 177 13 [.ref 41, .int 2, .int x2] [.int 0] _ _
      refine pm_R_ret pm_M177 (r := some (.int 0)) rfl rfl ?_
      show pm_R _ 175 72 [.ref 41, .int 2, .int x2, pm_no] [.int 0] _ _
      refine pm_R_br pm_M175 (pc' := 75) (st' := []) rfl rfl ?_
      refine pm_R_op pm_M175 (pc' := 77) (st' := [.int (-2)]) rfl rfl rfl ?_
      refine pm_R_ret pm_M175 (r := some (.int (-2))) rfl rfl ?_
      show pm_R _ 0 334 [.ref 0, .ref 16, .ref 41, .int 0] [.int (-2), .int (-2)] _ _
      refine pm_R_br pm_M0 (pc' := 2121) (st' := []) (pm_q0_2 (Nat.le_of_ble_eq_true rfl)) rfl ?_
      exact p1_tail (hh 0 (Nat.le_of_ble_eq_true rfl)) (Nat.le_of_ble_eq_true rfl) (Nat.le_of_ble_eq_true rfl) (Nat.le_of_ble_eq_true rfl)
  · have c_1 : x2 = (-1) := Classical.not_not.mp c_1
    subst c_1
    show pm_R _ 10 60 [.ref 16, .int 2, .int (-1), .int 0, .int 0, pm_no, pm_no] [] _ _
    refine pm_R_op pm_M10 (pc' := 61) (st' := [.int 1]) rfl rfl rfl ?_
    refine pm_R_br pm_M10 (pc' := 65) rfl rfl ?_
    refine pm_R_lo pm_M10 (pc' := 67) (ls' := [.ref 16, .int 2, .int (-1), .int 0, .int 0, .int 1, pm_no]) (st' := []) rfl rfl rfl ?_
    refine pm_R_lo pm_M10 (pc' := 69) rfl rfl rfl ?_
    refine pm_R_br pm_M10 (pc' := 72) (st' := []) rfl rfl ?_
    refine pm_R_lo pm_M10 (pc' := 74) rfl rfl rfl ?_
    refine pm_R_stat pm_M10 (pc' := 77) rfl rfl rfl ?_
    refine pm_R_lo pm_M10 (pc' := 78) rfl rfl rfl ?_
    refine pm_R_iald pm_M10 (pc' := 79) (v := 2) rfl (hh 1 (Nat.le_of_ble_eq_true rfl)) (Nat.le_of_ble_eq_true rfl) rfl rfl rfl ?_
    refine pm_R_br pm_M10 (pc' := 98) (st' := []) rfl rfl ?_
    refine pm_R_lo pm_M10 (pc' := 100) rfl rfl rfl ?_
    refine pm_R_br pm_M10 (pc' := 103) (st' := []) rfl rfl ?_
    refine pm_R_lo pm_M10 (pc' := 105) rfl rfl rfl ?_
    refine pm_R_br pm_M10 (pc' := 109) rfl rfl ?_
    refine pm_R_lo pm_M10 (pc' := 111) (ls' := [.ref 16, .int 2, .int (-1), .int 0, .int 0, .int 1, .int 0]) (st' := []) rfl rfl rfl ?_
    refine pm_R_lo pm_M10 (pc' := 112) rfl rfl rfl ?_
    refine pm_R_get pm_M10 (pc' := 115) (v := .ref 25) rfl rfl (hh 16 (Nat.le_of_ble_eq_true rfl)) (Nat.le_of_ble_eq_true rfl) (Nat.le_of_ble_eq_true rfl) rfl rfl ?_
    refine pm_R_lo pm_M10 (pc' := 116) rfl rfl rfl ?_
    refine pm_R_lo pm_M10 (pc' := 117) (pm_q10_1 (Nat.le_of_ble_eq_true rfl)) rfl rfl ?_
    refine pm_R_cv pm_M10 (pc' := 120) (a := 25) (ra := [.int 2, .int 0]) (rest := []) (ls' := [.ref 25, .int 0, .int 2, pm_no]) (pm_q10_1 (Nat.le_of_ble_eq_true rfl)) rfl (Or.inl rfl) pm_M11 (hh 25 (Nat.le_of_ble_eq_true rfl)) rfl (Nat.le_of_ble_eq_true rfl) (Nat.le_of_ble_eq_true rfl) rfl rfl (Nat.le_of_ble_eq_true rfl) rfl rfl ?_
    refine pm_R_lo pm_M11 (pc' := 1) rfl rfl rfl ?_
    refine pm_R_cv pm_M11 (pc' := 4) (a := 25) (ra := []) (rest := []) (ls' := [.ref 25]) rfl rfl (Or.inl rfl) pm_M12 (hh 25 (Nat.le_of_ble_eq_true rfl)) rfl (Nat.le_of_ble_eq_true rfl) (Nat.le_of_ble_eq_true rfl) rfl rfl (Nat.le_of_ble_eq_true rfl) rfl rfl ?_
    refine pm_R_lo pm_M12 (pc' := 1) rfl rfl rfl ?_
    refine pm_R_op pm_M12 (pc' := 2) (st' := [.int 0, .ref 25]) rfl rfl rfl ?_
    refine pm_R_put pm_M12 (pc' := 5) (fs' := [.ref 30, .int 0, .int (-1), .ref 26, .int 0, .ref 27, .int 0, .ref 28, .int 4, .int (-1), .ref 29]) rfl rfl rfl (hh 25 (Nat.le_of_ble_eq_true rfl)) (Nat.le_of_ble_eq_true rfl) (Nat.le_of_ble_eq_true rfl) (Nat.le_of_ble_eq_true rfl) rfl (Or.inl rfl) rfl rfl ?_
    refine pm_R_lo pm_M12 (pc' := 6) rfl rfl rfl ?_
    refine pm_R_op pm_M12 (pc' := 7) (st' := [.int (-1), .ref 25]) rfl rfl rfl ?_
    refine pm_R_put pm_M12 (pc' := 10) (fs' := [.ref 30, .int 0, .int (-1), .ref 26, .int 0, .ref 27, .int 0, .ref 28, .int 4, .int (-1), .ref 29]) rfl rfl rfl rfl (Nat.le_of_ble_eq_true rfl) (Nat.le_of_ble_eq_true rfl) (Nat.le_of_ble_eq_true rfl) rfl (Or.inl rfl) rfl rfl ?_
    refine pm_R_lo pm_M12 (pc' := 11) rfl rfl rfl ?_
    refine pm_R_op pm_M12 (pc' := 12) (st' := [.int 0, .ref 25]) rfl rfl rfl ?_
    refine pm_R_put pm_M12 (pc' := 15) (fs' := [.ref 30, .int 0, .int (-1), .ref 26, .int 0, .ref 27, .int 0, .ref 28, .int 4, .int (-1), .ref 29]) rfl rfl rfl rfl (Nat.le_of_ble_eq_true rfl) (Nat.le_of_ble_eq_true rfl) (Nat.le_of_ble_eq_true rfl) rfl (Or.inl rfl) rfl rfl ?_
    refine pm_R_lo pm_M12 (pc' := 16) rfl rfl rfl ?_
    refine pm_R_op pm_M12 (pc' := 17) (st' := [.int 0, .ref 25]) rfl rfl rfl ?_
    refine pm_R_put pm_M12 (pc' := 20) (fs' := [.ref 30, .int 0, .int (-1), .ref 26, .int 0, .ref 27, .int 0, .ref 28, .int 4, .int (-1), .ref 29]) rfl rfl rfl rfl (Nat.le_of_ble_eq_true rfl) (Nat.le_of_ble_eq_true rfl) (Nat.le_of_ble_eq_true rfl) rfl (Or.inl rfl) rfl rfl ?_
    refine pm_R_lo pm_M12 (pc' := 21) rfl rfl rfl ?_
    refine pm_R_get pm_M12 (pc' := 24) (v := .ref 28) rfl rfl rfl (Nat.le_of_ble_eq_true rfl) (Nat.le_of_ble_eq_true rfl) rfl rfl ?_
    refine pm_R_op pm_M12 (pc' := 25) (st' := [.int 0, .ref 28]) rfl rfl rfl ?_
    refine pm_R_cs pm_M12 (pc' := 28) (ra := [.int 0, .ref 28]) (rest := []) (ls' := [.ref 28, .int 0, pm_no, pm_no]) rfl rfl (Or.inl rfl) pm_M13 rfl rfl (Nat.le_of_ble_eq_true rfl) rfl rfl ?_
    refine pm_R_op pm_M13 (pc' := 1) (st' := [.int 0]) rfl rfl rfl ?_
    refine pm_R_lo pm_M13 (pc' := 2) (ls' := [.ref 28, .int 0, .int 0, pm_no]) (st' := []) rfl rfl rfl ?_
    refine pm_R_lo pm_M13 (pc' := 3) rfl rfl rfl ?_
    refine pm_R_alen pm_M13 (pc' := 4) (v := 10) rfl (hh 28 (Nat.le_of_ble_eq_true rfl)) (Nat.le_of_ble_eq_true rfl) (Nat.le_of_ble_eq_true rfl) (Nat.le_of_ble_eq_true rfl) rfl rfl ?_
    refine pm_R_lo pm_M13 (pc' := 5) (ls' := [.ref 28, .int 0, .int 0, .int 10]) (st' := []) rfl rfl rfl ?_
    refine pm_R_lo pm_M13 (pc' := 6) rfl rfl rfl ?_
    refine pm_R_lo pm_M13 (pc' := 7) rfl rfl rfl ?_
    refine pm_R_br pm_M13 (pc' := 10) (st' := []) rfl rfl ?_
    refine pm_R_lo pm_M13 (pc' := 11) rfl rfl rfl ?_
    refine pm_R_lo pm_M13 (pc' := 12) rfl rfl rfl ?_
    refine pm_R_lo pm_M13 (pc' := 13) rfl rfl rfl ?_
    refine pm_R_iast pm_M13 (pc' := 14) rfl (hh 28 (Nat.le_of_ble_eq_true rfl)) (Nat.le_of_ble_eq_true rfl) (Nat.le_of_ble_eq_true rfl) rfl rfl ?_
    refine pm_R_lo pm_M13 (pc' := 17) (ls' := [.ref 28, .int 0, .int 1, .int 10]) (st' := []) rfl rfl rfl ?_
    refine pm_R_br pm_M13 (pc' := 5) rfl rfl ?_
    refine pm_R_lo pm_M13 (pc' := 6) rfl rfl rfl ?_
    refine pm_R_lo pm_M13 (pc' := 7) rfl rfl rfl ?_
    refine pm_R_br pm_M13 (pc' := 10) (st' := []) rfl rfl ?_
    refine pm_R_lo pm_M13 (pc' := 11) rfl rfl rfl ?_
    refine pm_R_lo pm_M13 (pc' := 12) rfl rfl rfl ?_
    refine pm_R_lo pm_M13 (pc' := 13) rfl rfl rfl ?_
    refine pm_R_iast pm_M13 (pc' := 14) rfl rfl (Nat.le_of_ble_eq_true rfl) (Nat.le_of_ble_eq_true rfl) rfl rfl ?_
    refine pm_R_lo pm_M13 (pc' := 17) (ls' := [.ref 28, .int 0, .int 2, .int 10]) (st' := []) rfl rfl rfl ?_
    refine pm_R_br pm_M13 (pc' := 5) rfl rfl ?_
    refine pm_R_lo pm_M13 (pc' := 6) rfl rfl rfl ?_
    refine pm_R_lo pm_M13 (pc' := 7) rfl rfl rfl ?_
    refine pm_R_br pm_M13 (pc' := 10) (st' := []) rfl rfl ?_
    refine pm_R_lo pm_M13 (pc' := 11) rfl rfl rfl ?_
    refine pm_R_lo pm_M13 (pc' := 12) rfl rfl rfl ?_
    refine pm_R_lo pm_M13 (pc' := 13) rfl rfl rfl ?_
    refine pm_R_iast pm_M13 (pc' := 14) rfl rfl (Nat.le_of_ble_eq_true rfl) (Nat.le_of_ble_eq_true rfl) rfl rfl ?_
    refine pm_R_lo pm_M13 (pc' := 17) (ls' := [.ref 28, .int 0, .int 3, .int 10]) (st' := []) rfl rfl rfl ?_
    refine pm_R_br pm_M13 (pc' := 5) rfl rfl ?_
    refine pm_R_lo pm_M13 (pc' := 6) rfl rfl rfl ?_
    refine pm_R_lo pm_M13 (pc' := 7) rfl rfl rfl ?_
    refine pm_R_br pm_M13 (pc' := 10) (st' := []) rfl rfl ?_
    refine pm_R_lo pm_M13 (pc' := 11) rfl rfl rfl ?_
    refine pm_R_lo pm_M13 (pc' := 12) rfl rfl rfl ?_
    refine pm_R_lo pm_M13 (pc' := 13) rfl rfl rfl ?_
    refine pm_R_iast pm_M13 (pc' := 14) rfl rfl (Nat.le_of_ble_eq_true rfl) (Nat.le_of_ble_eq_true rfl) rfl rfl ?_
    refine pm_R_lo pm_M13 (pc' := 17) (ls' := [.ref 28, .int 0, .int 4, .int 10]) (st' := []) rfl rfl rfl ?_
    refine pm_R_br pm_M13 (pc' := 5) rfl rfl ?_
    refine pm_R_lo pm_M13 (pc' := 6) rfl rfl rfl ?_
    refine pm_R_lo pm_M13 (pc' := 7) rfl rfl rfl ?_
    refine pm_R_br pm_M13 (pc' := 10) (st' := []) rfl rfl ?_
    refine pm_R_lo pm_M13 (pc' := 11) rfl rfl rfl ?_
    refine pm_R_lo pm_M13 (pc' := 12) rfl rfl rfl ?_
    refine pm_R_lo pm_M13 (pc' := 13) rfl rfl rfl ?_
    refine pm_R_iast pm_M13 (pc' := 14) rfl rfl (Nat.le_of_ble_eq_true rfl) (Nat.le_of_ble_eq_true rfl) rfl rfl ?_
    refine pm_R_lo pm_M13 (pc' := 17) (ls' := [.ref 28, .int 0, .int 5, .int 10]) (st' := []) rfl rfl rfl ?_
    refine pm_R_br pm_M13 (pc' := 5) rfl rfl ?_
    refine pm_R_lo pm_M13 (pc' := 6) rfl rfl rfl ?_
    refine pm_R_lo pm_M13 (pc' := 7) rfl rfl rfl ?_
    refine pm_R_br pm_M13 (pc' := 10) (st' := []) rfl rfl ?_
    refine pm_R_lo pm_M13 (pc' := 11) rfl rfl rfl ?_
    refine pm_R_lo pm_M13 (pc' := 12) rfl rfl rfl ?_
    refine pm_R_lo pm_M13 (pc' := 13) rfl rfl rfl ?_
    refine pm_R_iast pm_M13 (pc' := 14) rfl rfl (Nat.le_of_ble_eq_true rfl) (Nat.le_of_ble_eq_true rfl) rfl rfl ?_
    refine pm_R_lo pm_M13 (pc' := 17) (ls' := [.ref 28, .int 0, .int 6, .int 10]) (st' := []) rfl rfl rfl ?_
    refine pm_R_br pm_M13 (pc' := 5) rfl rfl ?_
    refine pm_R_lo pm_M13 (pc' := 6) rfl rfl rfl ?_
    refine pm_R_lo pm_M13 (pc' := 7) rfl rfl rfl ?_
    refine pm_R_br pm_M13 (pc' := 10) (st' := []) rfl rfl ?_
    refine pm_R_lo pm_M13 (pc' := 11) rfl rfl rfl ?_
    refine pm_R_lo pm_M13 (pc' := 12) rfl rfl rfl ?_
    refine pm_R_lo pm_M13 (pc' := 13) rfl rfl rfl ?_
    refine pm_R_iast pm_M13 (pc' := 14) rfl rfl (Nat.le_of_ble_eq_true rfl) (Nat.le_of_ble_eq_true rfl) rfl rfl ?_
    refine pm_R_lo pm_M13 (pc' := 17) (ls' := [.ref 28, .int 0, .int 7, .int 10]) (st' := []) rfl rfl rfl ?_
    refine pm_R_br pm_M13 (pc' := 5) rfl rfl ?_
    refine pm_R_lo pm_M13 (pc' := 6) rfl rfl rfl ?_
    refine pm_R_lo pm_M13 (pc' := 7) rfl rfl rfl ?_
    refine pm_R_br pm_M13 (pc' := 10) (st' := []) rfl rfl ?_
    refine pm_R_lo pm_M13 (pc' := 11) rfl rfl rfl ?_
    refine pm_R_lo pm_M13 (pc' := 12) rfl rfl rfl ?_
    refine pm_R_lo pm_M13 (pc' := 13) rfl rfl rfl ?_
    refine pm_R_iast pm_M13 (pc' := 14) rfl rfl (Nat.le_of_ble_eq_true rfl) (Nat.le_of_ble_eq_true rfl) rfl rfl ?_
    refine pm_R_lo pm_M13 (pc' := 17) (ls' := [.ref 28, .int 0, .int 8, .int 10]) (st' := []) rfl rfl rfl ?_
    refine pm_R_br pm_M13 (pc' := 5) rfl rfl ?_
    refine pm_R_lo pm_M13 (pc' := 6) rfl rfl rfl ?_
    refine pm_R_lo pm_M13 (pc' := 7) rfl rfl rfl ?_
    refine pm_R_br pm_M13 (pc' := 10) (st' := []) rfl rfl ?_
    refine pm_R_lo pm_M13 (pc' := 11) rfl rfl rfl ?_
    refine pm_R_lo pm_M13 (pc' := 12) rfl rfl rfl ?_
    refine pm_R_lo pm_M13 (pc' := 13) rfl rfl rfl ?_
    refine pm_R_iast pm_M13 (pc' := 14) rfl rfl (Nat.le_of_ble_eq_true rfl) (Nat.le_of_ble_eq_true rfl) rfl rfl ?_
    refine pm_R_lo pm_M13 (pc' := 17) (ls' := [.ref 28, .int 0, .int 9, .int 10]) (st' := []) rfl rfl rfl ?_
    refine pm_R_br pm_M13 (pc' := 5) rfl rfl ?_
    refine pm_R_lo pm_M13 (pc' := 6) rfl rfl rfl ?_
    refine pm_R_lo pm_M13 (pc' := 7) rfl rfl rfl ?_
    refine pm_R_br pm_M13 (pc' := 10) (st' := []) rfl rfl ?_
    refine pm_R_lo pm_M13 (pc' := 11) rfl rfl rfl ?_
    refine pm_R_lo pm_M13 (pc' := 12) rfl rfl rfl ?_
    refine pm_R_lo pm_M13 (pc' := 13) rfl rfl rfl ?_
    refine pm_R_iast pm_M13 (pc' := 14) rfl rfl (Nat.le_of_ble_eq_true rfl) (Nat.le_of_ble_eq_true rfl) rfl rfl ?_
    refine pm_R_lo pm_M13 (pc' := 17) (ls' := [.ref 28, .int 0, .int 10, .int 10]) (st' := []) rfl rfl rfl ?_
    refine pm_R_br pm_M13 (pc' := 5) rfl rfl ?_
    refine pm_R_lo pm_M13 (pc' := 6) rfl rfl rfl ?_
    refine pm_R_lo pm_M13 (pc' := 7) rfl rfl rfl ?_
    refine pm_R_br pm_M13 (pc' := 20) (st' := []) rfl rfl ?_
    refine pm_R_ret pm_M13 (r := none) rfl rfl ?_
    show pm_R _ 12 28 [.ref 25] [] _ _
    refine pm_R_lo pm_M12 (pc' := 29) rfl rfl rfl ?_
    refine pm_R_op pm_M12 (pc' := 30) (st' := [.int 4, .ref 25]) rfl rfl rfl ?_
    refine pm_R_put pm_M12 (pc' := 33) (fs' := [.ref 30, .int 0, .int (-1), .ref 26, .int 0, .ref 27, .int 0, .ref 28, .int 4, .int (-1), .ref 29]) rfl rfl rfl rfl (Nat.le_of_ble_eq_true rfl) (Nat.le_of_ble_eq_true rfl) (Nat.le_of_ble_eq_true rfl) rfl (Or.inl rfl) rfl rfl ?_
    refine pm_R_lo pm_M12 (pc' := 34) rfl rfl rfl ?_
    refine pm_R_op pm_M12 (pc' := 35) (st' := [.int (-1), .ref 25]) rfl rfl rfl ?_
    refine pm_R_put pm_M12 (pc' := 38) (fs' := [.ref 30, .int 0, .int (-1), .ref 26, .int 0, .ref 27, .int 0, .ref 28, .int 4, .int (-1), .ref 29]) rfl rfl rfl rfl (Nat.le_of_ble_eq_true rfl) (Nat.le_of_ble_eq_true rfl) (Nat.le_of_ble_eq_true rfl) rfl (Or.inl rfl) rfl rfl ?_
    refine pm_R_ret pm_M12 (r := none) rfl rfl ?_
    show pm_R _ 11 4 [.ref 25, .int 0, .int 2, pm_no] [] _ _
    refine pm_R_lo pm_M11 (pc' := 5) rfl rfl rfl ?_
    refine pm_R_get pm_M11 (pc' := 8) (v := .ref 30) rfl rfl rfl (Nat.le_of_ble_eq_true rfl) (Nat.le_of_ble_eq_true rfl) rfl rfl ?_
    refine pm_R_lo pm_M11 (pc' := 9) rfl rfl rfl ?_
    refine pm_R_cv pm_M11 (pc' := 12) (a := 30) (ra := [.int 0]) (rest := []) (ls' := [.ref 30, .int 0]) rfl rfl (Or.inl rfl) pm_M14 (hh 30 (Nat.le_of_ble_eq_true rfl)) rfl (Nat.le_of_ble_eq_true rfl) (Nat.le_of_ble_eq_true rfl) rfl rfl (Nat.le_of_ble_eq_true rfl) rfl rfl ?_
    refine pm_R_lo pm_M14 (pc' := 1) rfl rfl rfl ?_
    refine pm_R_lo pm_M14 (pc' := 2) rfl rfl rfl ?_
    refine pm_R_lo pm_M14 (pc' := 3) rfl rfl rfl ?_
    refine pm_R_get pm_M14 (pc' := 6) (v := .ref 18) rfl rfl (hh 30 (Nat.le_of_ble_eq_true rfl)) (Nat.le_of_ble_eq_true rfl) (Nat.le_of_ble_eq_true rfl) rfl rfl ?_
    refine pm_R_alen pm_M14 (pc' := 7) (v := 600) rfl (hh 18 (Nat.le_of_ble_eq_true rfl)) (Nat.le_of_ble_eq_true rfl) (Nat.le_of_ble_eq_true rfl) (Nat.le_of_ble_eq_true rfl) rfl rfl ?_
    refine pm_R_nat pm_M14 (pc' := 10) (st' := [.int 0, .ref 30]) rfl rfl rfl rfl rfl ?_
    refine pm_R_put pm_M14 (pc' := 13) (fs' := [.ref 18, .int 0, .int 0, .int 0, .int 0, .int 0]) rfl rfl rfl (hh 30 (Nat.le_of_ble_eq_true rfl)) (Nat.le_of_ble_eq_true rfl) (Nat.le_of_ble_eq_true rfl) (Nat.le_of_ble_eq_true rfl) rfl (Or.inl rfl) rfl rfl ?_
    refine pm_R_lo pm_M14 (pc' := 14) rfl rfl rfl ?_
    refine pm_R_op pm_M14 (pc' := 15) (st' := [.int 0, .ref 30]) rfl rfl rfl ?_
    refine pm_R_put pm_M14 (pc' := 18) (fs' := [.ref 18, .int 0, .int 0, .int 0, .int 0, .int 0]) rfl rfl rfl rfl (Nat.le_of_ble_eq_true rfl) (Nat.le_of_ble_eq_true rfl) (Nat.le_of_ble_eq_true rfl) rfl (Or.inl rfl) rfl rfl ?_
    refine pm_R_lo pm_M14 (pc' := 19) rfl rfl rfl ?_
    refine pm_R_op pm_M14 (pc' := 20) (st' := [.int 0, .ref 30]) rfl rfl rfl ?_
    refine pm_R_put pm_M14 (pc' := 23) (fs' := [.ref 18, .int 0, .int 0, .int 0, .int 0, .int 0]) rfl rfl rfl rfl (Nat.le_of_ble_eq_true rfl) (Nat.le_of_ble_eq_true rfl) (Nat.le_of_ble_eq_true rfl) rfl (Or.inl rfl) rfl rfl ?_
    refine pm_R_lo pm_M14 (pc' := 24) rfl rfl rfl ?_
    refine pm_R_op pm_M14 (pc' := 25) (st' := [.int 0, .ref 30]) rfl rfl rfl ?_
    refine pm_R_put pm_M14 (pc' := 28) (fs' := [.ref 18, .int 0, .int 0, .int 0, .int 0, .int 0]) rfl rfl rfl rfl (Nat.le_of_ble_eq_true rfl) (Nat.le_of_ble_eq_true rfl) (Nat.le_of_ble_eq_true rfl) rfl (Or.inl rfl) rfl rfl ?_
    refine pm_R_ret pm_M14 (r := none) rfl rfl ?_
    show pm_R _ 11 12 [.ref 25, .int 0, .int 2, pm_no] [] _ _
    refine pm_R_lo pm_M11 (pc' := 13) rfl rfl rfl ?_
    refine pm_R_op pm_M11 (pc' := 14) (st' := [.int 1, .int 2]) rfl rfl rfl ?_
    refine pm_R_br pm_M11 (pc' := 24) (st' := []) rfl rfl ?_
    refine pm_R_lo pm_M11 (pc' := 25) rfl rfl rfl ?_
    refine pm_R_lo pm_M11 (pc' := 26) rfl rfl rfl ?_
    refine pm_R_cv pm_M11 (pc' := 29) (a := 25) (ra := [.int 2]) (rest := []) (ls' := [.ref 25, .int 2, pm_no]) rfl rfl (Or.inl rfl) pm_M22 rfl rfl (Nat.le_of_ble_eq_true rfl) (Nat.le_of_ble_eq_true rfl) rfl rfl (Nat.le_of_ble_eq_true rfl) rfl rfl ?_
    refine pm_R_lo pm_M22 (pc' := 1) rfl rfl rfl ?_
    refine pm_R_get pm_M22 (pc' := 4) (v := .ref 30) rfl rfl rfl (Nat.le_of_ble_eq_true rfl) (Nat.le_of_ble_eq_true rfl) rfl rfl ?_
    refine pm_R_cv pm_M22 (pc' := 7) (a := 30) (ra := []) (rest := []) (ls' := [.ref 30]) rfl rfl (Or.inl rfl) pm_M16 rfl rfl (Nat.le_of_ble_eq_true rfl) (Nat.le_of_ble_eq_true rfl) rfl rfl (Nat.le_of_ble_eq_true rfl) rfl rfl ?_
    refine pm_R_lo pm_M16 (pc' := 1) rfl rfl rfl ?_
    refine pm_R_lo pm_M16 (pc' := 2) rfl rfl rfl ?_
    refine pm_R_get pm_M16 (pc' := 5) (v := .int 0) rfl rfl rfl (Nat.le_of_ble_eq_true rfl) (Nat.le_of_ble_eq_true rfl) rfl rfl ?_
    refine pm_R_put pm_M16 (pc' := 8) (fs' := [.ref 18, .int 0, .int 0, .int 0, .int 0, .int 0]) rfl rfl rfl rfl (Nat.le_of_ble_eq_true rfl) (Nat.le_of_ble_eq_true rfl) (Nat.le_of_ble_eq_true rfl) rfl (Or.inl rfl) rfl rfl ?_
    refine pm_R_lo pm_M16 (pc' := 9) rfl rfl rfl ?_
    refine pm_R_get pm_M16 (pc' := 12) (v := .int 0) rfl rfl rfl (Nat.le_of_ble_eq_true rfl) (Nat.le_of_ble_eq_true rfl) rfl rfl ?_
    refine pm_R_lo pm_M16 (pc' := 13) rfl rfl rfl ?_
    refine pm_R_get pm_M16 (pc' := 16) (v := .int 0) rfl rfl rfl (Nat.le_of_ble_eq_true rfl) (Nat.le_of_ble_eq_true rfl) rfl rfl ?_
    refine pm_R_br pm_M16 (pc' := 47) (st' := []) rfl rfl ?_
    refine pm_R_lo pm_M16 (pc' := 48) rfl rfl rfl ?_
    refine pm_R_lo pm_M16 (pc' := 49) rfl rfl rfl ?_
    refine pm_R_get pm_M16 (pc' := 52) (v := .int 0) rfl rfl rfl (Nat.le_of_ble_eq_true rfl) (Nat.le_of_ble_eq_true rfl) rfl rfl ?_
    refine pm_R_put pm_M16 (pc' := 55) (fs' := [.ref 18, .int 0, .int 0, .int 0, .int 0, .int 0]) rfl rfl rfl rfl (Nat.le_of_ble_eq_true rfl) (Nat.le_of_ble_eq_true rfl) (Nat.le_of_ble_eq_true rfl) rfl (Or.inl rfl) rfl rfl ?_
    refine pm_R_lo pm_M16 (pc' := 56) rfl rfl rfl ?_
    refine pm_R_get pm_M16 (pc' := 59) (v := .int 0) rfl rfl rfl (Nat.le_of_ble_eq_true rfl) (Nat.le_of_ble_eq_true rfl) rfl rfl ?_
    refine pm_R_lo pm_M16 (pc' := 60) rfl rfl rfl ?_
    refine pm_R_get pm_M16 (pc' := 63) (v := .int 0) rfl rfl rfl (Nat.le_of_ble_eq_true rfl) (Nat.le_of_ble_eq_true rfl) rfl rfl ?_
    refine pm_R_br pm_M16 (pc' := 66) (st' := []) rfl rfl ?_
    refine pm_R_lo pm_M16 (pc' := 67) rfl rfl rfl ?_
    refine pm_R_op pm_M16 (pc' := 68) (st' := [.int 0, .ref 30]) rfl rfl rfl ?_
    refine pm_R_put pm_M16 (pc' := 71) (fs' := [.ref 18, .int 0, .int 0, .int 0, .int 0, .int 0]) rfl rfl rfl rfl (Nat.le_of_ble_eq_true rfl) (Nat.le_of_ble_eq_true rfl) (Nat.le_of_ble_eq_true rfl) rfl (Or.inl rfl) rfl rfl ?_
    refine pm_R_br pm_M16 (pc' := 191) rfl rfl ?_
    refine pm_R_ret pm_M16 (r := none) (pm_q16_1 (Nat.le_of_ble_eq_true rfl)) rfl ?_
    show pm_R _ 22 7 [.ref 25, .int 2, pm_no] [] _ _
    refine pm_R_op pm_M22 (pc' := 8) (st' := [.int 0]) rfl rfl rfl ?_
    refine pm_R_lo pm_M22 (pc' := 9) (ls' := [.ref 25, .int 2, .int 0]) (st' := []) rfl rfl rfl ?_
    refine pm_R_lo pm_M22 (pc' := 10) rfl rfl rfl ?_
    refine pm_R_op pm_M22 (pc' := 13) (st' := [.int 600, .int 0]) rfl rfl rfl ?_
    refine pm_R_br pm_M22 (pc' := 16) (st' := []) rfl rfl ?_
    refine pm_R_lo pm_M22 (pc' := 17) rfl rfl rfl ?_
    refine pm_R_get pm_M22 (pc' := 20) (v := .ref 30) rfl rfl rfl (Nat.le_of_ble_eq_true rfl) (Nat.le_of_ble_eq_true rfl) rfl rfl ?_
    refine pm_R_get pm_M22 (pc' := 23) (v := .int 0) rfl rfl rfl (Nat.le_of_ble_eq_true rfl) (Nat.le_of_ble_eq_true rfl) rfl rfl ?_
    refine pm_R_br pm_M22 (pc' := 53) (st' := []) rfl rfl ?_
    refine pm_R_op pm_M22 (pc' := 54) (st' := [.int 1]) rfl rfl rfl ?_
    refine pm_R_ret pm_M22 (r := some (.int 1)) rfl rfl ?_
    show pm_R _ 11 29 [.ref 25, .int 0, .int 2, pm_no] [.int 1] _ _
    refine pm_R_lo pm_M11 (pc' := 30) (ls' := [.ref 25, .int 0, .int 2, .int 1]) (st' := []) rfl rfl rfl ?_
    refine pm_R_lo pm_M11 (pc' := 31) rfl rfl rfl ?_
    refine pm_R_br pm_M11 (pc' := 53) (st' := []) rfl rfl ?_
    refine pm_R_lo pm_M11 (pc' := 54) rfl rfl rfl ?_
    refine pm_R_op pm_M11 (pc' := 55) (st' := [.int 1, .int 2]) rfl rfl rfl ?_
    refine pm_R_br pm_M11 (pc' := 65) (st' := []) rfl rfl ?_
    refine pm_R_lo pm_M11 (pc' := 66) rfl rfl rfl ?_
    refine pm_R_op pm_M11 (pc' := 67) (st' := [.int 2, .int 2]) rfl rfl rfl ?_
    refine pm_R_br pm_M11 (pc' := 70) (st' := []) rfl rfl ?_
    refine pm_R_lo pm_M11 (pc' := 71) rfl rfl rfl ?_
    refine pm_R_get pm_M11 (pc' := 74) (v := .int (-1)) rfl rfl rfl (Nat.le_of_ble_eq_true rfl) (Nat.le_of_ble_eq_true rfl) rfl rfl ?_
    refine pm_R_lo pm_M11 (pc' := 75) rfl rfl rfl ?_
    refine pm_R_get pm_M11 (pc' := 78) (v := .int 4) rfl rfl rfl (Nat.le_of_ble_eq_true rfl) (Nat.le_of_ble_eq_true rfl) rfl rfl ?_
    refine pm_R_br pm_M11 (pc' := 87) (st' := []) rfl rfl ?_
    refine pm_R_ret pm_M11 (r := none) rfl rfl ?_
    show pm_R _ 10 120 [.ref 16, .int 2, .int (-1), .int 0, .int 0, .int 1, .int 0] [] _ _
    refine pm_R_lo pm_M10 (pc' := 121) (pm_q10_1 (Nat.le_of_ble_eq_true rfl)) rfl rfl ?_
    refine pm_R_get pm_M10 (pc' := 124) (v := .ref 17) (pm_q10_1 (Nat.le_of_ble_eq_true rfl)) rfl (hh 16 (Nat.le_of_ble_eq_true rfl)) (Nat.le_of_ble_eq_true rfl) (Nat.le_of_ble_eq_true rfl) rfl rfl ?_
    refine pm_R_lo pm_M10 (pc' := 125) (pm_q10_1 (Nat.le_of_ble_eq_true rfl)) rfl rfl ?_
    refine pm_R_get pm_M10 (pc' := 128) (v := .ref 25) (pm_q10_1 (Nat.le_of_ble_eq_true rfl)) rfl (hh 16 (Nat.le_of_ble_eq_true rfl)) (Nat.le_of_ble_eq_true rfl) (Nat.le_of_ble_eq_true rfl) rfl rfl ?_
    refine pm_R_get pm_M10 (pc' := 131) (v := .int 0) (pm_q10_1 (Nat.le_of_ble_eq_true rfl)) rfl rfl (Nat.le_of_ble_eq_true rfl) (Nat.le_of_ble_eq_true rfl) rfl rfl ?_
    refine pm_R_put pm_M10 (pc' := 134) (fs' := [.ref 18, .int 0, .int 0, .int (-1), .ref 19, .ref 20, .ref 21, .ref 22, .ref 23]) (pm_q10_1 (Nat.le_of_ble_eq_true rfl)) rfl rfl rfl (Nat.le_of_ble_eq_true rfl) (Nat.le_of_ble_eq_true rfl) (Nat.le_of_ble_eq_true rfl) rfl (Or.inl rfl) rfl rfl ?_
    refine pm_R_lo pm_M10 (pc' := 135) (pm_q10_1 (Nat.le_of_ble_eq_true rfl)) rfl rfl ?_
    refine pm_R_get pm_M10 (pc' := 138) (v := .ref 17) (pm_q10_1 (Nat.le_of_ble_eq_true rfl)) rfl (hh 16 (Nat.le_of_ble_eq_true rfl)) (Nat.le_of_ble_eq_true rfl) (Nat.le_of_ble_eq_true rfl) rfl rfl ?_
    refine pm_R_lo pm_M10 (pc' := 139) (pm_q10_1 (Nat.le_of_ble_eq_true rfl)) rfl rfl ?_
    refine pm_R_get pm_M10 (pc' := 142) (v := .ref 25) (pm_q10_1 (Nat.le_of_ble_eq_true rfl)) rfl (hh 16 (Nat.le_of_ble_eq_true rfl)) (Nat.le_of_ble_eq_true rfl) (Nat.le_of_ble_eq_true rfl) rfl rfl ?_
    refine pm_R_get pm_M10 (pc' := 145) (v := .int (-1)) (pm_q10_1 (Nat.le_of_ble_eq_true rfl)) rfl rfl (Nat.le_of_ble_eq_true rfl) (Nat.le_of_ble_eq_true rfl) rfl rfl ?_
    refine pm_R_put pm_M10 (pc' := 148) (fs' := [.ref 18, .int 0, .int 0, .int (-1), .ref 19, .ref 20, .ref 21, .ref 22, .ref 23]) (pm_q10_1 (Nat.le_of_ble_eq_true rfl)) rfl rfl rfl (Nat.le_of_ble_eq_true rfl) (Nat.le_of_ble_eq_true rfl) (Nat.le_of_ble_eq_true rfl) rfl (Or.inl rfl) rfl rfl ?_
    refine pm_R_lo pm_M10 (pc' := 149) (pm_q10_1 (Nat.le_of_ble_eq_true rfl)) rfl rfl ?_
    refine pm_R_get pm_M10 (pc' := 152) (v := .ref 17) (pm_q10_1 (Nat.le_of_ble_eq_true rfl)) rfl (hh 16 (Nat.le_of_ble_eq_true rfl)) (Nat.le_of_ble_eq_true rfl) (Nat.le_of_ble_eq_true rfl) rfl rfl ?_
    refine pm_R_get pm_M10 (pc' := 155) (v := .int 0) (pm_q10_1 (Nat.le_of_ble_eq_true rfl)) rfl rfl (Nat.le_of_ble_eq_true rfl) (Nat.le_of_ble_eq_true rfl) rfl rfl ?_
    refine pm_R_br pm_M10 (pc' := 160) (st' := []) (pm_q10_1 (Nat.le_of_ble_eq_true rfl)) rfl ?_
    refine pm_R_lo pm_M10 (pc' := 161) (pm_q10_1 (Nat.le_of_ble_eq_true rfl)) rfl rfl ?_
    refine pm_R_lo pm_M10 (pc' := 162) (pm_q10_1 (Nat.le_of_ble_eq_true rfl)) rfl rfl ?_
    refine pm_R_lo pm_M10 (pc' := 164) (pm_q10_1 (Nat.le_of_ble_eq_true rfl)) rfl rfl ?_
    refine pm_R_cv pm_M10 (pc' := 167) (a := 16) (ra := [.int 0, .int 2]) (rest := []) (ls' := [.ref 16, .int 2, .int 0]) (pm_q10_1 (Nat.le_of_ble_eq_true rfl)) rfl (Or.inl rfl) pm_M43 (hh 16 (Nat.le_of_ble_eq_true rfl)) rfl (Nat.le_of_ble_eq_true rfl) (Nat.le_of_ble_eq_true rfl) rfl rfl (Nat.le_of_ble_eq_true rfl) rfl rfl ?_
    refine pm_R_lo pm_M43 (pc' := 1) rfl rfl rfl ?_
    refine pm_R_br pm_M43 (pc' := 74) (st' := []) rfl rfl ?_
    refine pm_R_lo pm_M43 (pc' := 75) rfl rfl rfl ?_
    refine pm_R_get pm_M43 (pc' := 78) (v := .ref 17) rfl rfl (hh 16 (Nat.le_of_ble_eq_true rfl)) (Nat.le_of_ble_eq_true rfl) (Nat.le_of_ble_eq_true rfl) rfl rfl ?_
    refine pm_R_get pm_M43 (pc' := 81) (v := .ref 21) rfl rfl rfl (Nat.le_of_ble_eq_true rfl) (Nat.le_of_ble_eq_true rfl) rfl rfl ?_
    refine pm_R_lo pm_M43 (pc' := 82) rfl rfl rfl ?_
    refine pm_R_new pm_M43 (pc' := 85) (fs := [.int 0, .int 0, .null, .null, .null]) rfl rfl rfl rfl rfl ?_
    show pm_R _ 43 85 [.ref 16, .int 2, .int 0] [.ref 72, .int 0, .ref 21] _ _
    refine pm_R_op pm_M43 (pc' := 86) (st' := [.ref 72, .ref 72, .int 0, .ref 21]) rfl rfl rfl ?_
    refine pm_R_lo pm_M43 (pc' := 87) rfl rfl rfl ?_
    refine pm_R_get pm_M43 (pc' := 90) (v := .ref 25) rfl rfl (hh 16 (Nat.le_of_ble_eq_true rfl)) (Nat.le_of_ble_eq_true rfl) (Nat.le_of_ble_eq_true rfl) rfl rfl ?_
    refine pm_R_ci pm_M43 (pc' := 93) (a := 72) (ra := [.ref 25]) (rest := [.ref 72, .int 0, .ref 21]) (ls' := [.ref 72, .ref 25, pm_no]) rfl rfl (Or.inl rfl) pm_M48 rfl rfl (Nat.le_of_ble_eq_true rfl) rfl rfl ?_
    refine pm_R_lo pm_M48 (pc' := 1) rfl rfl rfl ?_
    refine pm_R_obj pm_M48 (pc' := 4) rfl rfl rfl (Nat.le_of_ble_eq_true rfl) rfl ?_
    refine pm_R_lo pm_M48 (pc' := 5) rfl rfl rfl ?_
    refine pm_R_lo pm_M48 (pc' := 6) rfl rfl rfl ?_
    refine pm_R_get pm_M48 (pc' := 9) (v := .int 4) rfl rfl rfl (Nat.le_of_ble_eq_true rfl) (Nat.le_of_ble_eq_true rfl) rfl rfl ?_
    refine pm_R_put pm_M48 (pc' := 12) (fs' := [.int 4, .int 0, .null, .null, .null]) rfl rfl rfl rfl (Nat.le_of_ble_eq_true rfl) (Nat.le_of_ble_eq_true rfl) (Nat.le_of_ble_eq_true rfl) rfl (Or.inr ⟨pm_N48_ini, rfl, rfl⟩) rfl rfl ?_
    refine pm_R_lo pm_M48 (pc' := 13) rfl rfl rfl ?_
    refine pm_R_lo pm_M48 (pc' := 14) rfl rfl rfl ?_
    refine pm_R_get pm_M48 (pc' := 17) (v := .int 0) rfl rfl rfl (Nat.le_of_ble_eq_true rfl) (Nat.le_of_ble_eq_true rfl) rfl rfl ?_
    refine pm_R_put pm_M48 (pc' := 20) (fs' := [.int 4, .int 0, .null, .null, .null]) rfl rfl rfl rfl (Nat.le_of_ble_eq_true rfl) (Nat.le_of_ble_eq_true rfl) (Nat.le_of_ble_eq_true rfl) rfl (Or.inr ⟨pm_N48_ini, rfl, rfl⟩) rfl rfl ?_
    refine pm_R_lo pm_M48 (pc' := 21) rfl rfl rfl ?_
    refine pm_R_lo pm_M48 (pc' := 22) rfl rfl rfl ?_
    refine pm_R_get pm_M48 (pc' := 25) (v := .ref 26) rfl rfl rfl (Nat.le_of_ble_eq_true rfl) (Nat.le_of_ble_eq_true rfl) rfl rfl ?_
    refine pm_R_lo pm_M48 (pc' := 26) rfl rfl rfl ?_
    refine pm_R_get pm_M48 (pc' := 29) (v := .int 0) rfl rfl rfl (Nat.le_of_ble_eq_true rfl) (Nat.le_of_ble_eq_true rfl) rfl rfl ?_
    refine pm_R_op pm_M48 (pc' := 30) (st' := [.int 4, .int 0, .ref 26, .ref 72]) rfl rfl rfl ?_
    refine pm_R_op pm_M48 (pc' := 31) (st' := [.int 0, .ref 26, .ref 72]) rfl rfl rfl ?_
    refine pm_R_cs pm_M48 (pc' := 34) (ra := [.int 0, .ref 26]) (rest := [.ref 72]) (ls' := [.ref 26, .int 0, pm_no]) rfl rfl (Or.inl rfl) pm_M45 rfl rfl (Nat.le_of_ble_eq_true rfl) rfl rfl ?_
    refine pm_R_lo pm_M45 (pc' := 1) rfl rfl rfl ?_
    refine pm_R_lo pm_M45 (pc' := 2) rfl rfl rfl ?_
    refine pm_R_alen pm_M45 (pc' := 3) (v := 200) rfl (hh 26 (Nat.le_of_ble_eq_true rfl)) (Nat.le_of_ble_eq_true rfl) (Nat.le_of_ble_eq_true rfl) (Nat.le_of_ble_eq_true rfl) rfl rfl ?_
    refine pm_R_br pm_M45 (pc' := 14) (st' := []) rfl rfl ?_
    refine pm_R_lo pm_M45 (pc' := 15) rfl rfl rfl ?_
    refine pm_R_newa pm_M45 (pc' := 17) (N := 0) rfl rfl (by decide) rfl (Nat.le_of_ble_eq_true rfl) rfl ?_
    show pm_R _ 45 17 [.ref 26, .int 0, pm_no] [.ref 73] _ _
    refine pm_R_lo pm_M45 (pc' := 18) (ls' := [.ref 26, .int 0, .ref 73]) (st' := []) rfl rfl rfl ?_
    refine pm_R_lo pm_M45 (pc' := 19) rfl rfl rfl ?_
    refine pm_R_op pm_M45 (pc' := 20) (st' := [.int 0, .ref 26]) rfl rfl rfl ?_
    refine pm_R_lo pm_M45 (pc' := 21) rfl rfl rfl ?_
    refine pm_R_op pm_M45 (pc' := 22) (st' := [.int 0, .ref 73, .int 0, .ref 26]) rfl rfl rfl ?_
    refine pm_R_lo pm_M45 (pc' := 23) rfl rfl rfl ?_
    refine pm_R_alen pm_M45 (pc' := 24) (v := 200) rfl (hh 26 (Nat.le_of_ble_eq_true rfl)) (Nat.le_of_ble_eq_true rfl) (Nat.le_of_ble_eq_true rfl) (Nat.le_of_ble_eq_true rfl) rfl rfl ?_
    refine pm_R_lo pm_M45 (pc' := 25) rfl rfl rfl ?_
    refine pm_R_nat pm_M45 (pc' := 28) (st' := [.int 0, .int 0, .ref 73, .int 0, .ref 26]) rfl rfl rfl rfl rfl ?_
    refine pm_R_acp pm_M45 (pc' := 31) (S := 0) (D := 0) (N := 0) rfl rfl rfl (hh 26 (Nat.le_of_ble_eq_true rfl)) rfl (Or.inl rfl) (Nat.le_of_ble_eq_true rfl) (Nat.le_of_ble_eq_true rfl) (Nat.le_of_ble_eq_true rfl) (Nat.le_of_ble_eq_true rfl) rfl rfl rfl (by decide) (by decide) (by decide) (Nat.le_of_ble_eq_true rfl) (Nat.le_of_ble_eq_true rfl) (Nat.le_of_ble_eq_true rfl) rfl ?_
    refine pm_R_lo pm_M45 (pc' := 32) rfl rfl rfl ?_
    refine pm_R_ret pm_M45 (r := some (.ref 73)) rfl rfl ?_
    show pm_R _ 48 34 [.ref 72, .ref 25, pm_no] [.ref 73, .ref 72] _ _
    refine pm_R_put pm_M48 (pc' := 37) (fs' := [.int 4, .int 0, .ref 73, .null, .null]) rfl rfl rfl rfl (Nat.le_of_ble_eq_true rfl) (Nat.le_of_ble_eq_true rfl) (Nat.le_of_ble_eq_true rfl) rfl (Or.inr ⟨pm_N48_ini, rfl, rfl⟩) rfl rfl ?_
    refine pm_R_lo pm_M48 (pc' := 38) rfl rfl rfl ?_
    refine pm_R_lo pm_M48 (pc' := 39) rfl rfl rfl ?_
    refine pm_R_get pm_M48 (pc' := 42) (v := .int 0) rfl rfl rfl (Nat.le_of_ble_eq_true rfl) (Nat.le_of_ble_eq_true rfl) rfl rfl ?_
    refine pm_R_op pm_M48 (pc' := 43) (st' := [.int 1, .int 0, .ref 72]) rfl rfl rfl ?_
    refine pm_R_op pm_M48 (pc' := 44) (st' := [.int 1, .ref 72]) rfl rfl rfl ?_
    refine pm_R_lo pm_M48 (pc' := 45) rfl rfl rfl ?_
    refine pm_R_get pm_M48 (pc' := 48) (v := .int 4) rfl rfl rfl (Nat.le_of_ble_eq_true rfl) (Nat.le_of_ble_eq_true rfl) rfl rfl ?_
    refine pm_R_op pm_M48 (pc' := 49) (st' := [.int 4, .ref 72]) rfl rfl rfl ?_
    refine pm_R_newa pm_M48 (pc' := 51) (N := 4) rfl rfl (by decide) rfl (Nat.le_of_ble_eq_true rfl) rfl ?_
    show pm_R _ 48 51 [.ref 72, .ref 25, pm_no] [.ref 74, .ref 72] _ _
    refine pm_R_put pm_M48 (pc' := 54) (fs' := [.int 4, .int 0, .ref 73, .ref 74, .null]) rfl rfl rfl rfl (Nat.le_of_ble_eq_true rfl) (Nat.le_of_ble_eq_true rfl) (Nat.le_of_ble_eq_true rfl) rfl (Or.inr ⟨pm_N48_ini, rfl, rfl⟩) rfl rfl ?_
    refine pm_R_lo pm_M48 (pc' := 55) rfl rfl rfl ?_
    refine pm_R_lo pm_M48 (pc' := 56) rfl rfl rfl ?_
    refine pm_R_get pm_M48 (pc' := 59) (v := .int 0) rfl rfl rfl (Nat.le_of_ble_eq_true rfl) (Nat.le_of_ble_eq_true rfl) rfl rfl ?_
    refine pm_R_newa pm_M48 (pc' := 61) (N := 0) rfl rfl (by decide) rfl (Nat.le_of_ble_eq_true rfl) rfl ?_
    show pm_R _ 48 61 [.ref 72, .ref 25, pm_no] [.ref 75, .ref 72] _ _
    refine pm_R_put pm_M48 (pc' := 64) (fs' := [.int 4, .int 0, .ref 73, .ref 74, .ref 75]) rfl rfl rfl rfl (Nat.le_of_ble_eq_true rfl) (Nat.le_of_ble_eq_true rfl) (Nat.le_of_ble_eq_true rfl) rfl (Or.inr ⟨pm_N48_ini, rfl, rfl⟩) rfl rfl ?_
    refine pm_R_lo pm_M48 (pc' := 65) rfl rfl rfl ?_
    refine pm_R_get pm_M48 (pc' := 68) (v := .ref 74) rfl rfl rfl (Nat.le_of_ble_eq_true rfl) (Nat.le_of_ble_eq_true rfl) rfl rfl ?_
    refine pm_R_op pm_M48 (pc' := 69) (st' := [.int 0, .ref 74]) rfl rfl rfl ?_
    refine pm_R_lo pm_M48 (pc' := 70) rfl rfl rfl ?_
    refine pm_R_get pm_M48 (pc' := 73) (v := .int 4) rfl rfl rfl (Nat.le_of_ble_eq_true rfl) (Nat.le_of_ble_eq_true rfl) rfl rfl ?_
    refine pm_R_op pm_M48 (pc' := 74) (st' := [.int (-1), .int 4, .int 0, .ref 74]) rfl rfl rfl ?_
    refine pm_R_cs pm_M48 (pc' := 77) (ra := [.int (-1), .int 4, .int 0, .ref 74]) (rest := []) (ls' := [.ref 74, .int 0, .int 4, .int (-1), pm_no]) rfl rfl (Or.inl rfl) pm_M49 rfl rfl (Nat.le_of_ble_eq_true rfl) rfl rfl ?_
    refine pm_R_lo pm_M49 (pc' := 1) rfl rfl rfl ?_
    refine pm_R_alen pm_M49 (pc' := 2) (v := 4) rfl rfl (Nat.le_of_ble_eq_true rfl) (Nat.le_of_ble_eq_true rfl) (Nat.le_of_ble_eq_true rfl) rfl rfl ?_
    refine pm_R_lo pm_M49 (pc' := 3) rfl rfl rfl ?_
    refine pm_R_lo pm_M49 (pc' := 4) rfl rfl rfl ?_
    refine pm_R_cs pm_M49 (pc' := 7) (ra := [.int 4, .int 0, .int 4]) (rest := []) (ls' := [.int 4, .int 0, .int 4]) rfl rfl (Or.inl rfl) pm_M50 rfl rfl (Nat.le_of_ble_eq_true rfl) rfl rfl ?_
    refine pm_R_lo pm_M50 (pc' := 1) rfl rfl rfl ?_
    refine pm_R_lo pm_M50 (pc' := 2) rfl rfl rfl ?_
    refine pm_R_br pm_M50 (pc' := 46) (st' := []) rfl rfl ?_
    refine pm_R_lo pm_M50 (pc' := 47) rfl rfl rfl ?_
    refine pm_R_br pm_M50 (pc' := 59) (st' := []) rfl rfl ?_
    refine pm_R_lo pm_M50 (pc' := 60) rfl rfl rfl ?_
    refine pm_R_lo pm_M50 (pc' := 61) rfl rfl rfl ?_
    refine pm_R_br pm_M50 (pc' := 73) (st' := []) rfl rfl ?_
    refine pm_R_ret pm_M50 (r := none) rfl rfl ?_
    show pm_R _ 49 7 [.ref 74, .int 0, .int 4, .int (-1), pm_no] [] _ _
    refine pm_R_lo pm_M49 (pc' := 8) rfl rfl rfl ?_
    refine pm_R_lo pm_M49 (pc' := 10) (ls' := [.ref 74, .int 0, .int 4, .int (-1), .int 0]) (st' := []) rfl rfl rfl ?_
    refine pm_R_lo pm_M49 (pc' := 12) rfl rfl rfl ?_
    refine pm_R_lo pm_M49 (pc' := 13) rfl rfl rfl ?_
    refine pm_R_br pm_M49 (pc' := 16) (st' := []) rfl rfl ?_
    refine pm_R_lo pm_M49 (pc' := 17) rfl rfl rfl ?_
    refine pm_R_lo pm_M49 (pc' := 19) rfl rfl rfl ?_
    refine pm_R_lo pm_M49 (pc' := 20) rfl rfl rfl ?_
    refine pm_R_iast pm_M49 (pc' := 21) rfl rfl (Nat.le_of_ble_eq_true rfl) (Nat.le_of_ble_eq_true rfl) rfl rfl ?_
    refine pm_R_lo pm_M49 (pc' := 24) (ls' := [.ref 74, .int 0, .int 4, .int (-1), .int 1]) (st' := []) rfl rfl rfl ?_
    refine pm_R_br pm_M49 (pc' := 10) rfl rfl ?_
    refine pm_R_lo pm_M49 (pc' := 12) rfl rfl rfl ?_
    refine pm_R_lo pm_M49 (pc' := 13) rfl rfl rfl ?_
    refine pm_R_br pm_M49 (pc' := 16) (st' := []) rfl rfl ?_
    refine pm_R_lo pm_M49 (pc' := 17) rfl rfl rfl ?_
    refine pm_R_lo pm_M49 (pc' := 19) rfl rfl rfl ?_
    refine pm_R_lo pm_M49 (pc' := 20) rfl rfl rfl ?_
    refine pm_R_iast pm_M49 (pc' := 21) rfl rfl (Nat.le_of_ble_eq_true rfl) (Nat.le_of_ble_eq_true rfl) rfl rfl ?_
    refine pm_R_lo pm_M49 (pc' := 24) (ls' := [.ref 74, .int 0, .int 4, .int (-1), .int 2]) (st' := []) rfl rfl rfl ?_
    refine pm_R_br pm_M49 (pc' := 10) rfl rfl ?_
    refine pm_R_lo pm_M49 (pc' := 12) rfl rfl rfl ?_
    refine pm_R_lo pm_M49 (pc' := 13) rfl rfl rfl ?_
    refine pm_R_br pm_M49 (pc' := 16) (st' := []) rfl rfl ?_
    refine pm_R_lo pm_M49 (pc' := 17) rfl rfl rfl ?_
    refine pm_R_lo pm_M49 (pc' := 19) rfl rfl rfl ?_
    refine pm_R_lo pm_M49 (pc' := 20) rfl rfl rfl ?_
    refine pm_R_iast pm_M49 (pc' := 21) rfl rfl (Nat.le_of_ble_eq_true rfl) (Nat.le_of_ble_eq_true rfl) rfl rfl ?_
    refine pm_R_lo pm_M49 (pc' := 24) (ls' := [.ref 74, .int 0, .int 4, .int (-1), .int 3]) (st' := []) rfl rfl rfl ?_
    refine pm_R_br pm_M49 (pc' := 10) rfl rfl ?_
    refine pm_R_lo pm_M49 (pc' := 12) rfl rfl rfl ?_
    refine pm_R_lo pm_M49 (pc' := 13) rfl rfl rfl ?_
    refine pm_R_br pm_M49 (pc' := 16) (st' := []) rfl rfl ?_
    refine pm_R_lo pm_M49 (pc' := 17) rfl rfl rfl ?_
    refine pm_R_lo pm_M49 (pc' := 19) rfl rfl rfl ?_
    refine pm_R_lo pm_M49 (pc' := 20) rfl rfl rfl ?_
    refine pm_R_iast pm_M49 (pc' := 21) rfl rfl (Nat.le_of_ble_eq_true rfl) (Nat.le_of_ble_eq_true rfl) rfl rfl ?_
    refine pm_R_lo pm_M49 (pc' := 24) (ls' := [.ref 74, .int 0, .int 4, .int (-1), .int 4]) (st' := []) rfl rfl rfl ?_
    refine pm_R_br pm_M49 (pc' := 10) rfl rfl ?_
    refine pm_R_lo pm_M49 (pc' := 12) rfl rfl rfl ?_
    refine pm_R_lo pm_M49 (pc' := 13) rfl rfl rfl ?_
    refine pm_R_br pm_M49 (pc' := 27) (st' := []) rfl rfl ?_
    refine pm_R_ret pm_M49 (r := none) rfl rfl ?_
    show pm_R _ 48 77 [.ref 72, .ref 25, pm_no] [] _ _
    refine pm_R_op pm_M48 (pc' := 78) (st' := [.int 0]) rfl rfl rfl ?_
    refine pm_R_lo pm_M48 (pc' := 79) (ls' := [.ref 72, .ref 25, .int 0]) (st' := []) rfl rfl rfl ?_
    refine pm_R_lo pm_M48 (pc' := 80) rfl rfl rfl ?_
    refine pm_R_lo pm_M48 (pc' := 81) rfl rfl rfl ?_
    refine pm_R_get pm_M48 (pc' := 84) (v := .int 0) rfl rfl rfl (Nat.le_of_ble_eq_true rfl) (Nat.le_of_ble_eq_true rfl) rfl rfl ?_
    refine pm_R_br pm_M48 (pc' := 178) (st' := []) rfl rfl ?_
    refine pm_R_ret pm_M48 (r := none) (pm_q48_1 (Nat.le_of_ble_eq_true rfl)) rfl ?_
    show pm_R _ 43 93 [.ref 16, .int 2, .int 0] [.ref 72, .int 0, .ref 21] _ _
    refine pm_R_aast pm_M43 (pc' := 94) rfl (hh 21 (Nat.le_of_ble_eq_true rfl)) rfl rfl (Nat.le_of_ble_eq_true rfl) (Nat.le_of_ble_eq_true rfl) (Nat.le_of_ble_eq_true rfl) (Nat.le_of_ble_eq_true rfl) rfl rfl ?_
    refine pm_R_br pm_M43 (pc' := 117) rfl rfl ?_
    refine pm_R_ret pm_M43 (r := none) rfl rfl ?_
    show pm_R _ 10 167 [.ref 16, .int 2, .int (-1), .int 0, .int 0, .int 1, .int 0] [] _ _
    refine pm_R_lo pm_M10 (pc' := 169) (pm_q10_1 (Nat.le_of_ble_eq_true rfl)) rfl rfl ?_
    refine pm_R_br pm_M10 (pc' := 172) (st' := []) (pm_q10_1 (Nat.le_of_ble_eq_true rfl)) rfl ?_
    refine pm_R_lo pm_M10 (pc' := 173) (pm_q10_1 (Nat.le_of_ble_eq_true rfl)) rfl rfl ?_
    refine pm_R_get pm_M10 (pc' := 176) (v := .ref 17) (pm_q10_1 (Nat.le_of_ble_eq_true rfl)) rfl (hh 16 (Nat.le_of_ble_eq_true rfl)) (Nat.le_of_ble_eq_true rfl) (Nat.le_of_ble_eq_true rfl) rfl rfl ?_
    refine pm_R_get pm_M10 (pc' := 179) (v := .ref 23) (pm_q10_1 (Nat.le_of_ble_eq_true rfl)) rfl rfl (Nat.le_of_ble_eq_true rfl) (Nat.le_of_ble_eq_true rfl) rfl rfl ?_
    refine pm_R_lo pm_M10 (pc' := 180) (pm_q10_1 (Nat.le_of_ble_eq_true rfl)) rfl rfl ?_
    refine pm_R_op pm_M10 (pc' := 181) (st' := [.int 2, .ref 23, .int 2, .ref 23]) (pm_q10_1 (Nat.le_of_ble_eq_true rfl)) rfl rfl ?_
    refine pm_R_iald pm_M10 (pc' := 182) (v := 0) (pm_q10_1 (Nat.le_of_ble_eq_true rfl)) (hh 23 (Nat.le_of_ble_eq_true rfl)) (Nat.le_of_ble_eq_true rfl) rfl rfl rfl ?_
    refine pm_R_op pm_M10 (pc' := 183) (st' := [.int 1, .int 0, .int 2, .ref 23]) (pm_q10_1 (Nat.le_of_ble_eq_true rfl)) rfl rfl ?_
    refine pm_R_op pm_M10 (pc' := 184) (st' := [.int 1, .int 2, .ref 23]) (pm_q10_1 (Nat.le_of_ble_eq_true rfl)) rfl rfl ?_
    refine pm_R_iast pm_M10 (pc' := 185) (pm_q10_1 (Nat.le_of_ble_eq_true rfl)) (hh 23 (Nat.le_of_ble_eq_true rfl)) (Nat.le_of_ble_eq_true rfl) (Nat.le_of_ble_eq_true rfl) rfl rfl ?_
    refine pm_R_lo pm_M10 (pc' := 187) (pm_q10_1 (Nat.le_of_ble_eq_true rfl)) rfl rfl ?_
    refine pm_R_ret pm_M10 (r := some (.int 0)) (pm_q10_1 (Nat.le_of_ble_eq_true rfl)) rfl ?_
    show pm_R _ 0 320 [.ref 0, .ref 16, .ref 41, .int 0] [.int 0] _ _
    refine pm_R_lo pm_M0 (pc' := 321) (pm_q0_1 (Nat.le_of_ble_eq_true rfl)) rfl rfl ?_
    refine pm_R_lo pm_M0 (pc' := 322) (pm_q0_1 (Nat.le_of_ble_eq_true rfl)) rfl rfl ?_
    refine pm_R_lo pm_M0 (pc' := 323) (pm_q0_1 (Nat.le_of_ble_eq_true rfl)) rfl rfl ?_
    refine pm_R_op pm_M0 (pc' := 324) (st' := [.int 1, .int 0, .ref 0, .ref 41, .int 0]) (pm_q0_1 (Nat.le_of_ble_eq_true rfl)) rfl rfl ?_
    refine pm_R_op pm_M0 (pc' := 325) (st' := [.int 1, .ref 0, .ref 41, .int 0]) (pm_q0_1 (Nat.le_of_ble_eq_true rfl)) rfl rfl ?_
    refine pm_R_iald pm_M0 (pc' := 326) (v := 2) (pm_q0_1 (Nat.le_of_ble_eq_true rfl)) (hh 0 (Nat.le_of_ble_eq_true rfl)) (Nat.le_of_ble_eq_true rfl) rfl hx1 rfl ?_
    refine pm_R_lo pm_M0 (pc' := 327) (pm_q0_1 (Nat.le_of_ble_eq_true rfl)) rfl rfl ?_
    refine pm_R_lo pm_M0 (pc' := 328) (pm_q0_1 (Nat.le_of_ble_eq_true rfl)) rfl rfl ?_
    refine pm_R_op pm_M0 (pc' := 329) (st' := [.int 2, .int 0, .ref 0, .int 2, .ref 41, .int 0]) (pm_q0_1 (Nat.le_of_ble_eq_true rfl)) rfl rfl ?_
    refine pm_R_op pm_M0 (pc' := 330) (st' := [.int 2, .ref 0, .int 2, .ref 41, .int 0]) (pm_q0_1 (Nat.le_of_ble_eq_true rfl)) rfl rfl ?_
    refine pm_R_iald pm_M0 (pc' := 331) (v := (-1)) (pm_q0_1 (Nat.le_of_ble_eq_true rfl)) (hh 0 (Nat.le_of_ble_eq_true rfl)) (Nat.le_of_ble_eq_true rfl) rfl hx2 rfl ?_
    refine pm_R_cv pm_M0 (pc' := 334) (a := 41) (ra := [.int (-1), .int 2]) (rest := [.int 0]) (ls' := [.ref 41, .int 2, .int (-1), pm_no]) (pm_q0_1 (Nat.le_of_ble_eq_true rfl)) rfl (Or.inl rfl) pm_M175 (hh 41 (Nat.le_of_ble_eq_true rfl)) rfl (Nat.le_of_ble_eq_true rfl) (Nat.le_of_ble_eq_true rfl) rfl rfl (Nat.le_of_ble_eq_true rfl) rfl rfl ?_
    refine pm_R_lo pm_M175 (pc' := 1) rfl rfl rfl ?_
    refine pm_R_op pm_M175 (pc' := 2) (st' := [.int 0, .ref 41]) rfl rfl rfl ?_
    refine pm_R_put pm_M175 (pc' := 5) (fs' := [.int 0, .ref 42, .ref 43, .ref 44, .ref 45, .ref 46, .ref 47, .ref 48, .ref 49, .ref 50, .int 0, .int 0, .int 0, .int 0, .int 0, .long 0, .int 0, .int 0, .int 0, .ref 51, .ref 52, .int 0, .int 0, .int 0, .int 0, .ref 53, .int 0, .int 0, .ref 54, .ref 55, .ref 56, .int 0, .ref 57, .ref 58, .ref 59, .ref 60, .ref 61, .ref 62, .ref 63, .ref 64, .ref 65, .ref 66, .int 0, .int 0, .int 0, .ref 67, .ref 68, .int 0, .ref 69, .int 0, .int 0, .ref 70, .ref 71]) rfl rfl rfl (hh 41 (Nat.le_of_ble_eq_true rfl)) (Nat.le_of_ble_eq_true rfl) (Nat.le_of_ble_eq_true rfl) (Nat.le_of_ble_eq_true rfl) rfl (Or.inl rfl) rfl rfl ?_
    refine pm_R_lo pm_M175 (pc' := 6) rfl rfl rfl ?_
    refine pm_R_lo pm_M175 (pc' := 7) rfl rfl rfl ?_
    refine pm_R_get pm_M175 (pc' := 10) (v := .ref 43) rfl rfl rfl (Nat.le_of_ble_eq_true rfl) (Nat.le_of_ble_eq_true rfl) rfl rfl ?_
    refine pm_R_op pm_M175 (pc' := 11) (st' := [.int 0, .ref 43, .ref 41]) rfl rfl rfl ?_
    refine pm_R_iald pm_M175 (pc' := 12) (v := 0) rfl (hh 43 (Nat.le_of_ble_eq_true rfl)) (Nat.le_of_ble_eq_true rfl) rfl rfl rfl ?_
    refine pm_R_put pm_M175 (pc' := 15) (fs' := [.int 0, .ref 42, .ref 43, .ref 44, .ref 45, .ref 46, .ref 47, .ref 48, .ref 49, .ref 50, .int 0, .int 0, .int 0, .int 0, .int 0, .long 0, .int 0, .int 0, .int 0, .ref 51, .ref 52, .int 0, .int 0, .int 0, .int 0, .ref 53, .int 0, .int 0, .ref 54, .ref 55, .ref 56, .int 0, .ref 57, .ref 58, .ref 59, .ref 60, .ref 61, .ref 62, .ref 63, .ref 64, .ref 65, .ref 66, .int 0, .int 0, .int 0, .ref 67, .ref 68, .int 0, .ref 69, .int 0, .int 0, .ref 70, .ref 71]) rfl rfl rfl rfl (Nat.le_of_ble_eq_true rfl) (Nat.le_of_ble_eq_true rfl) (Nat.le_of_ble_eq_true rfl) rfl (Or.inl rfl) rfl rfl ?_
    refine pm_R_lo pm_M175 (pc' := 16) rfl rfl rfl ?_
    refine pm_R_get pm_M175 (pc' := 19) (v := .ref 43) rfl rfl rfl (Nat.le_of_ble_eq_true rfl) (Nat.le_of_ble_eq_true rfl) rfl rfl ?_
    refine pm_R_op pm_M175 (pc' := 20) (st' := [.int 0, .ref 43]) rfl rfl rfl ?_
    refine pm_R_op pm_M175 (pc' := 21) (st' := [.int 0, .int 0, .ref 43]) rfl rfl rfl ?_
    refine pm_R_iast pm_M175 (pc' := 22) rfl (hh 43 (Nat.le_of_ble_eq_true rfl)) (Nat.le_of_ble_eq_true rfl) (Nat.le_of_ble_eq_true rfl) rfl rfl ?_
    refine pm_R_lo pm_M175 (pc' := 23) rfl rfl rfl ?_
    refine pm_R_get pm_M175 (pc' := 26) (v := .ref 44) rfl rfl rfl (Nat.le_of_ble_eq_true rfl) (Nat.le_of_ble_eq_true rfl) rfl rfl ?_
    refine pm_R_op pm_M175 (pc' := 27) (st' := [.int 0, .ref 44]) rfl rfl rfl ?_
    refine pm_R_op pm_M175 (pc' := 28) (st' := [.int 0, .int 0, .ref 44]) rfl rfl rfl ?_
    refine pm_R_iast pm_M175 (pc' := 29) rfl (hh 44 (Nat.le_of_ble_eq_true rfl)) (Nat.le_of_ble_eq_true rfl) (Nat.le_of_ble_eq_true rfl) rfl rfl ?_
    refine pm_R_lo pm_M175 (pc' := 30) rfl rfl rfl ?_
    refine pm_R_get pm_M175 (pc' := 33) (v := .ref 45) rfl rfl rfl (Nat.le_of_ble_eq_true rfl) (Nat.le_of_ble_eq_true rfl) rfl rfl ?_
    refine pm_R_op pm_M175 (pc' := 34) (st' := [.int 0, .ref 45]) rfl rfl rfl ?_
    refine pm_R_op pm_M175 (pc' := 35) (st' := [.int (-1), .int 0, .ref 45]) rfl rfl rfl ?_
    refine pm_R_iast pm_M175 (pc' := 36) rfl (hh 45 (Nat.le_of_ble_eq_true rfl)) (Nat.le_of_ble_eq_true rfl) (Nat.le_of_ble_eq_true rfl) rfl rfl ?_
    refine pm_R_lo pm_M175 (pc' := 37) rfl rfl rfl ?_
    refine pm_R_op pm_M175 (pc' := 38) (st' := [.int 0, .int 2]) rfl rfl rfl ?_
    refine pm_R_op pm_M175 (pc' := 39) (st' := [.int 3, .int 0, .int 2]) rfl rfl rfl ?_
    refine pm_R_cs pm_M175 (pc' := 42) (ra := [.int 3, .int 0, .int 2]) (rest := []) (ls' := [.int 2, .int 0, .int 3]) rfl rfl (Or.inl rfl) pm_M174 rfl rfl (Nat.le_of_ble_eq_true rfl) rfl rfl ?_
    refine pm_R_lo pm_M174 (pc' := 1) rfl rfl rfl ?_
    refine pm_R_lo pm_M174 (pc' := 2) rfl rfl rfl ?_
    refine pm_R_br pm_M174 (pc' := 5) (st' := []) rfl rfl ?_
    refine pm_R_lo pm_M174 (pc' := 6) rfl rfl rfl ?_
    refine pm_R_lo pm_M174 (pc' := 7) rfl rfl rfl ?_
    refine pm_R_br pm_M174 (pc' := 10) (st' := []) rfl rfl ?_
    refine pm_R_op pm_M174 (pc' := 11) (st' := [.int 1]) rfl rfl rfl ?_
    refine pm_R_br pm_M174 (pc' := 15) rfl rfl ?_
    refine pm_R_ret pm_M174 (r := some (.int 1)) rfl rfl ?_
    show pm_R _ 175 42 [.ref 41, .int 2, .int (-1), pm_no] [.int 1] _ _
    refine pm_R_br pm_M175 (pc' := 45) (st' := []) rfl rfl ?_
    refine pm_R_lo pm_M175 (pc' := 46) rfl rfl rfl ?_
    refine pm_R_op pm_M175 (pc' := 47) (st' := [.int (-1), .int (-1)]) rfl rfl rfl ?_
    refine pm_R_br pm_M175 (pc' := 50) (st' := []) rfl rfl ?_
    refine pm_R_lo pm_M175 (pc' := 51) rfl rfl rfl ?_
    refine pm_R_get pm_M175 (pc' := 54) (v := .ref 46) rfl rfl rfl (Nat.le_of_ble_eq_true rfl) (Nat.le_of_ble_eq_true rfl) rfl rfl ?_
    refine pm_R_lo pm_M175 (pc' := 55) rfl rfl rfl ?_
    refine pm_R_iald pm_M175 (pc' := 56) (v := 0) rfl (hh 46 (Nat.le_of_ble_eq_true rfl)) (Nat.le_of_ble_eq_true rfl) rfl rfl rfl ?_
    refine pm_R_lo pm_M175 (pc' := 57) rfl rfl rfl ?_
    refine pm_R_cs pm_M175 (pc' := 60) (ra := [.int 2]) (rest := [.int 0]) (ls' := [.int 2]) rfl rfl (Or.inl rfl) pm_M176 rfl rfl (Nat.le_of_ble_eq_true rfl) rfl rfl ?_
    refine pm_R_lo pm_M176 (pc' := 1) rfl rfl rfl ?_
    refine pm_R_op pm_M176 (pc' := 2) (st' := [.int 1, .int 2]) rfl rfl rfl ?_
    refine pm_R_br pm_M176 (pc' := 9) (st' := []) rfl rfl ?_
    refine pm_R_op pm_M176 (pc' := 10) (st' := [.int 2]) rfl rfl rfl ?_
    refine pm_R_ret pm_M176 (r := some (.int 2)) rfl rfl ?_
    show pm_R _ 175 60 [.ref 41, .int 2, .int (-1), pm_no] [.int 2, .int 0] _ _
    refine pm_R_br pm_M175 (pc' := 78) (st' := []) rfl rfl ?_
    refine pm_R_lo pm_M175 (pc' := 79) rfl rfl rfl ?_
    refine pm_R_lo pm_M175 (pc' := 80) rfl rfl rfl ?_
    refine pm_R_cv pm_M175 (pc' := 83) (a := 41) (ra := [.int 2]) (rest := []) (ls' := [.ref 41, .int 2, pm_no, pm_no]) rfl rfl (Or.inl rfl) pm_M178 rfl rfl (Nat.le_of_ble_eq_true rfl) (Nat.le_of_ble_eq_true rfl) rfl rfl (Nat.le_of_ble_eq_true rfl) rfl rfl ?_
    refine pm_R_op pm_M178 (pc' := 1) (st' := [.int 0]) rfl rfl rfl ?_
    refine pm_R_lo pm_M178 (pc' := 2) (ls' := [.ref 41, .int 2, .int 0, pm_no]) (st' := []) rfl rfl rfl ?_
    refine pm_R_heq (pm_set_self (a := 51) (c := .inl (0, 152, .inl (fun _ => 0))) (hh 51 (Nat.le_of_ble_eq_true rfl))).symm ?_
    refine p1_L1 rfl rfl (Nat.le_of_ble_eq_true rfl) (fun g_9 => ?_) 152 0 _ rfl
    refine pm_R_lo pm_M178 (pc' := 23) rfl rfl rfl ?_
    refine pm_R_get pm_M178 (pc' := 26) (v := .ref 51) rfl rfl rfl (Nat.le_of_ble_eq_true rfl) (Nat.le_of_ble_eq_true rfl) rfl rfl ?_
    refine pm_R_op pm_M178 (pc' := 27) (st' := [.int 0, .ref 51]) rfl rfl rfl ?_
    refine pm_R_lo pm_M178 (pc' := 28) rfl rfl rfl ?_
    refine pm_R_op pm_M178 (pc' := 29) (st' := [.int 2, .int 2, .int 0, .ref 51]) rfl rfl rfl ?_
    refine pm_R_br pm_M178 (pc' := 32) (st' := [.int 0, .ref 51]) rfl rfl ?_
    refine pm_R_op pm_M178 (pc' := 33) (st' := [.int 4, .int 0, .ref 51]) rfl rfl rfl ?_
    refine pm_R_br pm_M178 (pc' := 37) rfl rfl ?_
    refine pm_R_iast pm_M178 (pc' := 38) rfl rfl (Nat.le_of_ble_eq_true rfl) (Nat.le_of_ble_eq_true rfl) rfl rfl ?_
    refine pm_R_lo pm_M178 (pc' := 39) rfl rfl rfl ?_
    refine pm_R_op pm_M178 (pc' := 40) (st' := [.int (-1), .ref 41]) rfl rfl rfl ?_
    refine pm_R_put pm_M178 (pc' := 43) (fs' := [.int 0, .ref 42, .ref 43, .ref 44, .ref 45, .ref 46, .ref 47, .ref 48, .ref 49, .ref 50, .int 0, .int 0, .int 0, .int 0, .int 0, .long 0, .int 0, .int 0, .int 0, .ref 51, .ref 52, .int (-1), .int 0, .int 0, .int 0, .ref 53, .int 0, .int 0, .ref 54, .ref 55, .ref 56, .int 0, .ref 57, .ref 58, .ref 59, .ref 60, .ref 61, .ref 62, .ref 63, .ref 64, .ref 65, .ref 66, .int 0, .int 0, .int 0, .ref 67, .ref 68, .int 0, .ref 69, .int 0, .int 0, .ref 70, .ref 71]) rfl rfl rfl rfl (Nat.le_of_ble_eq_true rfl) (Nat.le_of_ble_eq_true rfl) (Nat.le_of_ble_eq_true rfl) rfl (Or.inl rfl) rfl rfl ?_
    refine pm_R_lo pm_M178 (pc' := 44) rfl rfl rfl ?_
    refine pm_R_op pm_M178 (pc' := 45) (st' := [.int 0, .ref 41]) rfl rfl rfl ?_
    refine pm_R_put pm_M178 (pc' := 48) (fs' := [.int 0, .ref 42, .ref 43, .ref 44, .ref 45, .ref 46, .ref 47, .ref 48, .ref 49, .ref 50, .int 0, .int 0, .int 0, .int 0, .int 0, .long 0, .int 0, .int 0, .int 0, .ref 51, .ref 52, .int (-1), .int 0, .int 0, .int 0, .ref 53, .int 0, .int 0, .ref 54, .ref 55, .ref 56, .int 0, .ref 57, .ref 58, .ref 59, .ref 60, .ref 61, .ref 62, .ref 63, .ref 64, .ref 65, .ref 66, .int 0, .int 0, .int 0, .ref 67, .ref 68, .int 0, .ref 69, .int 0, .int 0, .ref 70, .ref 71]) rfl rfl rfl rfl (Nat.le_of_ble_eq_true rfl) (Nat.le_of_ble_eq_true rfl) (Nat.le_of_ble_eq_true rfl) rfl (Or.inl rfl) rfl rfl ?_
    refine pm_R_lo pm_M178 (pc' := 49) rfl rfl rfl ?_
    refine pm_R_op pm_M178 (pc' := 50) (st' := [.int 0, .ref 41]) rfl rfl rfl ?_
    refine pm_R_put pm_M178 (pc' := 53) (fs' := [.int 0, .ref 42, .ref 43, .ref 44, .ref 45, .ref 46, .ref 47, .ref 48, .ref 49, .ref 50, .int 0, .int 0, .int 0, .int 0, .int 0, .long 0, .int 0, .int 0, .int 0, .ref 51, .ref 52, .int (-1), .int 0, .int 0, .int 0, .ref 53, .int 0, .int 0, .ref 54, .ref 55, .ref 56, .int 0, .ref 57, .ref 58, .ref 59, .ref 60, .ref 61, .ref 62, .ref 63, .ref 64, .ref 65, .ref 66, .int 0, .int 0, .int 0, .ref 67, .ref 68, .int 0, .ref 69, .int 0, .int 0, .ref 70, .ref 71]) rfl rfl rfl rfl (Nat.le_of_ble_eq_true rfl) (Nat.le_of_ble_eq_true rfl) (Nat.le_of_ble_eq_true rfl) rfl (Or.inl rfl) rfl rfl ?_
    refine pm_R_lo pm_M178 (pc' := 54) rfl rfl rfl ?_
    refine pm_R_cv pm_M178 (pc' := 57) (a := 41) (ra := []) (rest := []) (ls' := [.ref 41, pm_no, pm_no]) rfl rfl (Or.inl rfl) pm_M179 rfl rfl (Nat.le_of_ble_eq_true rfl) (Nat.le_of_ble_eq_true rfl) rfl rfl (Nat.le_of_ble_eq_true rfl) rfl rfl ?_
    refine pm_R_lo pm_M179 (pc' := 1) rfl rfl rfl ?_
    refine pm_R_cv pm_M179 (pc' := 4) (a := 41) (ra := []) (rest := []) (ls' := [.ref 41]) rfl rfl (Or.inl rfl) pm_M180 rfl rfl (Nat.le_of_ble_eq_true rfl) (Nat.le_of_ble_eq_true rfl) rfl rfl (Nat.le_of_ble_eq_true rfl) rfl rfl ?_
    refine pm_R_lo pm_M180 (pc' := 1) rfl rfl rfl ?_
    refine pm_R_get pm_M180 (pc' := 4) (v := .int 0) rfl rfl rfl (Nat.le_of_ble_eq_true rfl) (Nat.le_of_ble_eq_true rfl) rfl rfl ?_
    refine pm_R_lo pm_M180 (pc' := 5) rfl rfl rfl ?_
    refine pm_R_get pm_M180 (pc' := 8) (v := .int 0) rfl rfl rfl (Nat.le_of_ble_eq_true rfl) (Nat.le_of_ble_eq_true rfl) rfl rfl ?_
    refine pm_R_br pm_M180 (pc' := 27) (st' := []) rfl rfl ?_
    refine pm_R_op pm_M180 (pc' := 28) (st' := [.int (-1)]) rfl rfl rfl ?_
    refine pm_R_ret pm_M180 (r := some (.int (-1))) rfl rfl ?_
    show pm_R _ 179 4 [.ref 41, pm_no, pm_no] [.int (-1)] _ _
    refine pm_R_op pm_M179 (pc' := 6) (st' := [.int 10, .int (-1)]) rfl rfl rfl ?_
    refine pm_R_br pm_M179 (pc' := 9) (st' := []) rfl rfl ?_
    refine pm_R_lo pm_M179 (pc' := 10) rfl rfl rfl ?_
    refine pm_R_cv pm_M179 (pc' := 13) (a := 41) (ra := []) (rest := []) (ls' := [.ref 41]) rfl rfl (Or.inl rfl) pm_M180 rfl rfl (Nat.le_of_ble_eq_true rfl) (Nat.le_of_ble_eq_true rfl) rfl rfl (Nat.le_of_ble_eq_true rfl) rfl rfl ?_
    refine pm_R_lo pm_M180 (pc' := 1) rfl rfl rfl ?_
    refine pm_R_get pm_M180 (pc' := 4) (v := .int 0) rfl rfl rfl (Nat.le_of_ble_eq_true rfl) (Nat.le_of_ble_eq_true rfl) rfl rfl ?_
    refine pm_R_lo pm_M180 (pc' := 5) rfl rfl rfl ?_
    refine pm_R_get pm_M180 (pc' := 8) (v := .int 0) rfl rfl rfl (Nat.le_of_ble_eq_true rfl) (Nat.le_of_ble_eq_true rfl) rfl rfl ?_
    refine pm_R_br pm_M180 (pc' := 27) (st' := []) rfl rfl ?_
    refine pm_R_op pm_M180 (pc' := 28) (st' := [.int (-1)]) rfl rfl rfl ?_
    refine pm_R_ret pm_M180 (r := some (.int (-1))) rfl rfl ?_
    show pm_R _ 179 13 [.ref 41, pm_no, pm_no] [.int (-1)] _ _
    refine pm_R_op pm_M179 (pc' := 15) (st' := [.int 32, .int (-1)]) rfl rfl rfl ?_
    refine pm_R_br pm_M179 (pc' := 31) (st' := []) rfl rfl ?_
    refine pm_R_lo pm_M179 (pc' := 32) rfl rfl rfl ?_
    refine pm_R_lo pm_M179 (pc' := 33) rfl rfl rfl ?_
    refine pm_R_get pm_M179 (pc' := 36) (v := .int 0) rfl rfl rfl (Nat.le_of_ble_eq_true rfl) (Nat.le_of_ble_eq_true rfl) rfl rfl ?_
    refine pm_R_put pm_M179 (pc' := 39) (fs' := [.int 0, .ref 42, .ref 43, .ref 44, .ref 45, .ref 46, .ref 47, .ref 48, .ref 49, .ref 50, .int 0, .int 0, .int 0, .int 0, .int 0, .long 0, .int 0, .int 0, .int 0, .ref 51, .ref 52, .int (-1), .int 0, .int 0, .int 0, .ref 53, .int 0, .int 0, .ref 54, .ref 55, .ref 56, .int 0, .ref 57, .ref 58, .ref 59, .ref 60, .ref 61, .ref 62, .ref 63, .ref 64, .ref 65, .ref 66, .int 0, .int 0, .int 0, .ref 67, .ref 68, .int 0, .ref 69, .int 0, .int 0, .ref 70, .ref 71]) rfl rfl rfl rfl (Nat.le_of_ble_eq_true rfl) (Nat.le_of_ble_eq_true rfl) (Nat.le_of_ble_eq_true rfl) rfl (Or.inl rfl) rfl rfl ?_
    refine pm_R_lo pm_M179 (pc' := 40) rfl rfl rfl ?_
    refine pm_R_cv pm_M179 (pc' := 43) (a := 41) (ra := []) (rest := []) (ls' := [.ref 41]) rfl rfl (Or.inl rfl) pm_M180 rfl rfl (Nat.le_of_ble_eq_true rfl) (Nat.le_of_ble_eq_true rfl) rfl rfl (Nat.le_of_ble_eq_true rfl) rfl rfl ?_
    refine pm_R_lo pm_M180 (pc' := 1) rfl rfl rfl ?_
    refine pm_R_get pm_M180 (pc' := 4) (v := .int 0) rfl rfl rfl (Nat.le_of_ble_eq_true rfl) (Nat.le_of_ble_eq_true rfl) rfl rfl ?_
    refine pm_R_lo pm_M180 (pc' := 5) rfl rfl rfl ?_
    refine pm_R_get pm_M180 (pc' := 8) (v := .int 0) rfl rfl rfl (Nat.le_of_ble_eq_true rfl) (Nat.le_of_ble_eq_true rfl) rfl rfl ?_
    refine pm_R_br pm_M180 (pc' := 27) (st' := []) rfl rfl ?_
    refine pm_R_op pm_M180 (pc' := 28) (st' := [.int (-1)]) rfl rfl rfl ?_
    refine pm_R_ret pm_M180 (r := some (.int (-1))) rfl rfl ?_
    show pm_R _ 179 43 [.ref 41, pm_no, pm_no] [.int (-1)] _ _
    refine pm_R_lo pm_M179 (pc' := 44) (ls' := [.ref 41, .int (-1), pm_no]) (st' := []) rfl rfl rfl ?_
    refine pm_R_lo pm_M179 (pc' := 45) rfl rfl rfl ?_
    refine pm_R_op pm_M179 (pc' := 46) (st' := [.long 0, .ref 41]) rfl rfl rfl ?_
    refine pm_R_put pm_M179 (pc' := 49) (fs' := [.int 0, .ref 42, .ref 43, .ref 44, .ref 45, .ref 46, .ref 47, .ref 48, .ref 49, .ref 50, .int 0, .int 0, .int 0, .int 0, .int 0, .long 0, .int 0, .int 0, .int 0, .ref 51, .ref 52, .int (-1), .int 0, .int 0, .int 0, .ref 53, .int 0, .int 0, .ref 54, .ref 55, .ref 56, .int 0, .ref 57, .ref 58, .ref 59, .ref 60, .ref 61, .ref 62, .ref 63, .ref 64, .ref 65, .ref 66, .int 0, .int 0, .int 0, .ref 67, .ref 68, .int 0, .ref 69, .int 0, .int 0, .ref 70, .ref 71]) rfl rfl rfl rfl (Nat.le_of_ble_eq_true rfl) (Nat.le_of_ble_eq_true rfl) (Nat.le_of_ble_eq_true rfl) rfl (Or.inl rfl) rfl rfl ?_
    refine pm_R_op pm_M179 (pc' := 50) (st' := [.int 0]) rfl rfl rfl ?_
    refine pm_R_lo pm_M179 (pc' := 51) (ls' := [.ref 41, .int (-1), .int 0]) (st' := []) rfl rfl rfl ?_
    refine pm_R_lo pm_M179 (pc' := 52) rfl rfl rfl ?_
    refine pm_R_br pm_M179 (pc' := 55) (st' := []) rfl rfl ?_
    refine pm_R_lo pm_M179 (pc' := 56) rfl rfl rfl ?_
    refine pm_R_op pm_M179 (pc' := 57) (st' := [.int 0, .ref 41]) rfl rfl rfl ?_
    refine pm_R_put pm_M179 (pc' := 60) (fs' := [.int 0, .ref 42, .ref 43, .ref 44, .ref 45, .ref 46, .ref 47, .ref 48, .ref 49, .ref 50, .int 0, .int 0, .int 0, .int 0, .int 0, .long 0, .int 0, .int 0, .int 0, .ref 51, .ref 52, .int (-1), .int 0, .int 0, .int 0, .ref 53, .int 0, .int 0, .ref 54, .ref 55, .ref 56, .int 0, .ref 57, .ref 58, .ref 59, .ref 60, .ref 61, .ref 62, .ref 63, .ref 64, .ref 65, .ref 66, .int 0, .int 0, .int 0, .ref 67, .ref 68, .int 0, .ref 69, .int 0, .int 0, .ref 70, .ref 71]) rfl rfl rfl rfl (Nat.le_of_ble_eq_true rfl) (Nat.le_of_ble_eq_true rfl) (Nat.le_of_ble_eq_true rfl) rfl (Or.inl rfl) rfl rfl ?_
    refine pm_R_br pm_M179 (pc' := 266) rfl rfl ?_
    refine pm_R_ret pm_M179 (r := none) (pm_q179_2 (Nat.le_of_ble_eq_true rfl)) rfl ?_
    show pm_R _ 178 57 [.ref 41, .int 2, .int 152, pm_no] [] _ _
    refine pm_R_lo pm_M178 (pc' := 58) rfl rfl rfl ?_
    refine pm_R_op pm_M178 (pc' := 59) (st' := [.int 1, .int 2]) rfl rfl rfl ?_
    refine pm_R_br pm_M178 (pc' := 69) (st' := []) rfl rfl ?_
    refine pm_R_lo pm_M178 (pc' := 70) rfl rfl rfl ?_
    refine pm_R_lo pm_M178 (pc' := 71) rfl rfl rfl ?_
    refine pm_R_cv pm_M178 (pc' := 74) (a := 41) (ra := [.int 2]) (rest := []) (ls' := [.ref 41, .int 2, pm_no, pm_no, pm_no, pm_no]) rfl rfl (Or.inl rfl) pm_M186 rfl rfl (Nat.le_of_ble_eq_true rfl) (Nat.le_of_ble_eq_true rfl) rfl rfl (Nat.le_of_ble_eq_true rfl) rfl rfl ?_
    refine pm_R_op pm_M186 (pc' := 1) (st' := [.int 1]) rfl rfl rfl ?_
    refine pm_R_lo pm_M186 (pc' := 2) (ls' := [.ref 41, .int 2, .int 1, pm_no, pm_no, pm_no]) (st' := []) rfl rfl rfl ?_
    refine pm_R_lo pm_M186 (pc' := 3) rfl rfl rfl ?_
    refine pm_R_br pm_M186 (pc' := 6) (st' := []) rfl rfl ?_
    refine pm_R_lo pm_M186 (pc' := 7) rfl rfl rfl ?_
    refine pm_R_get pm_M186 (pc' := 10) (v := .int 0) rfl rfl rfl (Nat.le_of_ble_eq_true rfl) (Nat.le_of_ble_eq_true rfl) rfl rfl ?_
    refine pm_R_br pm_M186 (pc' := 106) (st' := []) rfl rfl ?_
    refine pm_R_lo pm_M186 (pc' := 107) rfl rfl rfl ?_
    refine pm_R_ret pm_M186 (r := some (.int 1)) rfl rfl ?_
    show pm_R _ 178 74 [.ref 41, .int 2, .int 152, pm_no] [.int 1] _ _
    refine pm_R_lo pm_M178 (pc' := 75) (ls' := [.ref 41, .int 2, .int 1, pm_no]) (st' := []) rfl rfl rfl ?_
    refine pm_R_lo pm_M178 (pc' := 76) rfl rfl rfl ?_
    refine pm_R_op pm_M178 (pc' := 77) (st' := [.int 1, .int 2]) rfl rfl rfl ?_
    refine pm_R_br pm_M178 (pc' := 97) (st' := []) rfl rfl ?_
    refine pm_R_lo pm_M178 (pc' := 98) rfl rfl rfl ?_
    refine pm_R_op pm_M178 (pc' := 99) (st' := [.int 2, .int 2]) rfl rfl rfl ?_
    refine pm_R_br pm_M178 (pc' := 102) (st' := []) rfl rfl ?_
    refine pm_R_lo pm_M178 (pc' := 103) rfl rfl rfl ?_
    refine pm_R_get pm_M178 (pc' := 106) (v := .int (-1)) rfl rfl rfl (Nat.le_of_ble_eq_true rfl) (Nat.le_of_ble_eq_true rfl) rfl rfl ?_
    refine pm_R_lo pm_M178 (pc' := 107) (pm_q178_1 (Nat.le_of_ble_eq_true rfl)) rfl rfl ?_
    refine pm_R_get pm_M178 (pc' := 110) (v := .ref 51) (pm_q178_1 (Nat.le_of_ble_eq_true rfl)) rfl rfl (Nat.le_of_ble_eq_true rfl) (Nat.le_of_ble_eq_true rfl) rfl rfl ?_
    refine pm_R_op pm_M178 (pc' := 111) (st' := [.int 0, .ref 51, .int (-1)]) (pm_q178_1 (Nat.le_of_ble_eq_true rfl)) rfl rfl ?_
    refine pm_R_iald pm_M178 (pc' := 112) (v := 4) (pm_q178_1 (Nat.le_of_ble_eq_true rfl)) rfl (Nat.le_of_ble_eq_true rfl) rfl rfl rfl ?_
    refine pm_R_br pm_M178 (pc' := 119) (st' := []) (pm_q178_1 (Nat.le_of_ble_eq_true rfl)) rfl ?_
    refine pm_R_op pm_M178 (pc' := 120) (st' := [.int 0]) (pm_q178_1 (Nat.le_of_ble_eq_true rfl)) rfl rfl ?_
    refine pm_R_lo pm_M178 (pc' := 121) (ls' := [.ref 41, .int 2, .int 1, .int 0]) (st' := []) (pm_q178_1 (Nat.le_of_ble_eq_true rfl)) rfl rfl ?_
    refine pm_R_lo pm_M178 (pc' := 122) (pm_q178_1 (Nat.le_of_ble_eq_true rfl)) rfl rfl ?_
    refine pm_R_br pm_M178 (pc' := 125) (st' := []) (pm_q178_1 (Nat.le_of_ble_eq_true rfl)) rfl ?_
    refine pm_R_lo pm_M178 (pc' := 126) (pm_q178_1 (Nat.le_of_ble_eq_true rfl)) rfl rfl ?_
    refine pm_R_get pm_M178 (pc' := 129) (v := .int 0) (pm_q178_1 (Nat.le_of_ble_eq_true rfl)) rfl rfl (Nat.le_of_ble_eq_true rfl) (Nat.le_of_ble_eq_true rfl) rfl rfl ?_
    refine pm_R_br pm_M178 (pc' := 132) (st' := []) (pm_q178_1 (Nat.le_of_ble_eq_true rfl)) rfl ?_
    refine pm_R_lo pm_M178 (pc' := 133) (pm_q178_1 (Nat.le_of_ble_eq_true rfl)) rfl rfl ?_
    refine pm_R_br pm_M178 (pc' := 145) (st' := []) (pm_q178_1 (Nat.le_of_ble_eq_true rfl)) rfl ?_
    refine pm_R_lo pm_M178 (pc' := 146) (pm_q178_1 (Nat.le_of_ble_eq_true rfl)) rfl rfl ?_
    refine pm_R_get pm_M178 (pc' := 149) (v := .ref 44) (pm_q178_1 (Nat.le_of_ble_eq_true rfl)) rfl rfl (Nat.le_of_ble_eq_true rfl) (Nat.le_of_ble_eq_true rfl) rfl rfl ?_
    refine pm_R_op pm_M178 (pc' := 150) (st' := [.int 0, .ref 44]) (pm_q178_1 (Nat.le_of_ble_eq_true rfl)) rfl rfl ?_
    refine pm_R_lo pm_M178 (pc' := 151) (pm_q178_1 (Nat.le_of_ble_eq_true rfl)) rfl rfl ?_
    refine pm_R_br pm_M178 (pc' := 154) (st' := [.int 0, .ref 44]) (pm_q178_1 (Nat.le_of_ble_eq_true rfl)) rfl ?_
    refine pm_R_lo pm_M178 (pc' := 155) (pm_q178_1 (Nat.le_of_ble_eq_true rfl)) rfl rfl ?_
    refine pm_R_get pm_M178 (pc' := 158) (v := .int 0) (pm_q178_1 (Nat.le_of_ble_eq_true rfl)) rfl rfl (Nat.le_of_ble_eq_true rfl) (Nat.le_of_ble_eq_true rfl) rfl rfl ?_
    refine pm_R_br pm_M178 (pc' := 162) (pm_q178_1 (Nat.le_of_ble_eq_true rfl)) rfl ?_
    refine pm_R_iast pm_M178 (pc' := 163) (pm_q178_1 (Nat.le_of_ble_eq_true rfl)) rfl (Nat.le_of_ble_eq_true rfl) (Nat.le_of_ble_eq_true rfl) rfl rfl ?_
    refine pm_R_lo pm_M178 (pc' := 164) (pm_q178_1 (Nat.le_of_ble_eq_true rfl)) rfl rfl ?_
    refine pm_R_get pm_M178 (pc' := 167) (v := .ref 45) (pm_q178_1 (Nat.le_of_ble_eq_true rfl)) rfl rfl (Nat.le_of_ble_eq_true rfl) (Nat.le_of_ble_eq_true rfl) rfl rfl ?_
    refine pm_R_op pm_M178 (pc' := 168) (st' := [.int 0, .ref 45]) (pm_q178_1 (Nat.le_of_ble_eq_true rfl)) rfl rfl ?_
    refine pm_R_lo pm_M178 (pc' := 169) (pm_q178_1 (Nat.le_of_ble_eq_true rfl)) rfl rfl ?_
    refine pm_R_br pm_M178 (pc' := 179) (st' := [.int 0, .ref 45]) (pm_q178_1 (Nat.le_of_ble_eq_true rfl)) rfl ?_
    refine pm_R_lo pm_M178 (pc' := 180) (pm_q178_1 (Nat.le_of_ble_eq_true rfl)) rfl rfl ?_
    refine pm_R_get pm_M178 (pc' := 183) (v := .int 0) (pm_q178_1 (Nat.le_of_ble_eq_true rfl)) rfl rfl (Nat.le_of_ble_eq_true rfl) (Nat.le_of_ble_eq_true rfl) rfl rfl ?_
    refine pm_R_br pm_M178 (pc' := 193) (st' := [.int 0, .ref 45]) (pm_q178_1 (Nat.le_of_ble_eq_true rfl)) rfl ?_
    refine pm_R_op pm_M178 (pc' := 194) (st' := [.int (-1), .int 0, .ref 45]) (pm_q178_1 (Nat.le_of_ble_eq_true rfl)) rfl rfl ?_
    refine pm_R_iast pm_M178 (pc' := 195) (pm_q178_1 (Nat.le_of_ble_eq_true rfl)) rfl (Nat.le_of_ble_eq_true rfl) (Nat.le_of_ble_eq_true rfl) rfl rfl ?_
    refine pm_R_lo pm_M178 (pc' := 196) (pm_q178_1 (Nat.le_of_ble_eq_true rfl)) rfl rfl ?_
    refine pm_R_get pm_M178 (pc' := 199) (v := .ref 44) (pm_q178_1 (Nat.le_of_ble_eq_true rfl)) rfl rfl (Nat.le_of_ble_eq_true rfl) (Nat.le_of_ble_eq_true rfl) rfl rfl ?_
    refine pm_R_op pm_M178 (pc' := 200) (st' := [.int 0, .ref 44]) (pm_q178_1 (Nat.le_of_ble_eq_true rfl)) rfl rfl ?_
    refine pm_R_iald pm_M178 (pc' := 201) (v := 0) (pm_q178_1 (Nat.le_of_ble_eq_true rfl)) rfl (Nat.le_of_ble_eq_true rfl) rfl rfl rfl ?_
    refine pm_R_br pm_M178 (pc' := 204) (st' := []) (pm_q178_1 (Nat.le_of_ble_eq_true rfl)) rfl ?_
    refine pm_R_op pm_M178 (pc' := 205) (st' := [.int 1]) (pm_q178_1 (Nat.le_of_ble_eq_true rfl)) rfl rfl ?_
    refine pm_R_br pm_M178 (pc' := 209) (pm_q178_1 (Nat.le_of_ble_eq_true rfl)) rfl ?_
    refine pm_R_ret pm_M178 (r := some (.int 1)) (pm_q178_1 (Nat.le_of_ble_eq_true rfl)) rfl ?_
    show pm_R _ 175 83 [.ref 41, .int 2, .int (-1), pm_no] [.int 1] _ _
    refine pm_R_br pm_M175 (pc' := 88) (st' := []) rfl rfl ?_
    refine pm_R_lo pm_M175 (pc' := 89) rfl rfl rfl ?_
    refine pm_R_op pm_M175 (pc' := 90) (st' := [.int (-1), .int (-1)]) rfl rfl rfl ?_
    refine pm_R_br pm_M175 (pc' := 93) (st' := []) rfl rfl ?_
    refine pm_R_lo pm_M175 (pc' := 94) rfl rfl rfl ?_
    refine pm_R_get pm_M175 (pc' := 97) (v := .ref 46) rfl rfl rfl (Nat.le_of_ble_eq_true rfl) (Nat.le_of_ble_eq_true rfl) rfl rfl ?_
    refine pm_R_lo pm_M175 (pc' := 98) rfl rfl rfl ?_
    refine pm_R_iald pm_M175 (pc' := 99) (v := 0) rfl (hh 46 (Nat.le_of_ble_eq_true rfl)) (Nat.le_of_ble_eq_true rfl) rfl rfl rfl ?_
    refine pm_R_br pm_M175 (pc' := 103) (pm_q175_1 (Nat.le_of_ble_eq_true rfl)) rfl ?_
    refine pm_R_lo pm_M175 (pc' := 104) (ls' := [.ref 41, .int 2, .int (-1), .int 0]) (st' := []) (pm_q175_1 (Nat.le_of_ble_eq_true rfl)) rfl rfl ?_
    refine pm_R_lo pm_M175 (pc' := 105) (pm_q175_1 (Nat.le_of_ble_eq_true rfl)) rfl rfl ?_
    refine pm_R_get pm_M175 (pc' := 108) (v := .ref 46) (pm_q175_1 (Nat.le_of_ble_eq_true rfl)) rfl rfl (Nat.le_of_ble_eq_true rfl) (Nat.le_of_ble_eq_true rfl) rfl rfl ?_
    refine pm_R_lo pm_M175 (pc' := 109) (pm_q175_1 (Nat.le_of_ble_eq_true rfl)) rfl rfl ?_
    refine pm_R_op pm_M175 (pc' := 110) (st' := [.int 2, .ref 46, .int 2, .ref 46]) (pm_q175_1 (Nat.le_of_ble_eq_true rfl)) rfl rfl ?_
    refine pm_R_iald pm_M175 (pc' := 111) (v := 0) (pm_q175_1 (Nat.le_of_ble_eq_true rfl)) (hh 46 (Nat.le_of_ble_eq_true rfl)) (Nat.le_of_ble_eq_true rfl) rfl rfl rfl ?_
    refine pm_R_lo pm_M175 (pc' := 112) (pm_q175_1 (Nat.le_of_ble_eq_true rfl)) rfl rfl ?_
    refine pm_R_op pm_M175 (pc' := 113) (st' := [.int (-1), .int (-1), .int 0, .int 2, .ref 46]) (pm_q175_1 (Nat.le_of_ble_eq_true rfl)) rfl rfl ?_
    refine pm_R_br pm_M175 (pc' := 116) (st' := [.int 0, .int 2, .ref 46]) (pm_q175_1 (Nat.le_of_ble_eq_true rfl)) rfl ?_
    refine pm_R_op pm_M175 (pc' := 117) (st' := [.int 1, .int 0, .int 2, .ref 46]) (pm_q175_1 (Nat.le_of_ble_eq_true rfl)) rfl rfl ?_
    refine pm_R_br pm_M175 (pc' := 121) (pm_q175_1 (Nat.le_of_ble_eq_true rfl)) rfl ?_
    refine pm_R_op pm_M175 (pc' := 122) (st' := [.int 1, .int 2, .ref 46]) (pm_q175_1 (Nat.le_of_ble_eq_true rfl)) rfl rfl ?_
    refine pm_R_iast pm_M175 (pc' := 123) (pm_q175_1 (Nat.le_of_ble_eq_true rfl)) (hh 46 (Nat.le_of_ble_eq_true rfl)) (Nat.le_of_ble_eq_true rfl) (Nat.le_of_ble_eq_true rfl) rfl rfl ?_
    refine pm_R_lo pm_M175 (pc' := 124) (pm_q175_1 (Nat.le_of_ble_eq_true rfl)) rfl rfl ?_
    refine pm_R_br pm_M175 (pc' := 180) (st' := []) (pm_q175_1 (Nat.le_of_ble_eq_true rfl)) rfl ?_
    refine pm_R_lo pm_M175 (pc' := 181) (pm_q175_1 (Nat.le_of_ble_eq_true rfl)) rfl rfl ?_
    refine pm_R_lo pm_M175 (pc' := 182) (pm_q175_1 (Nat.le_of_ble_eq_true rfl)) rfl rfl ?_
    refine pm_R_get pm_M175 (pc' := 185) (v := .ref 49) (pm_q175_1 (Nat.le_of_ble_eq_true rfl)) rfl rfl (Nat.le_of_ble_eq_true rfl) (Nat.le_of_ble_eq_true rfl) rfl rfl ?_
    refine pm_R_op pm_M175 (pc' := 188) (st' := [.int 152, .ref 49, .ref 41]) (pm_q175_1 (Nat.le_of_ble_eq_true rfl)) rfl rfl ?_
    refine pm_R_lo pm_M175 (pc' := 189) (pm_q175_1 (Nat.le_of_ble_eq_true rfl)) rfl rfl ?_
    refine pm_R_cv pm_M175 (pc' := 192) (a := 41) (ra := [.int 0, .int 152, .ref 49]) (rest := []) (ls' := [.ref 41, .ref 49, .int 152, .int 0, pm_no]) (pm_q175_1 (Nat.le_of_ble_eq_true rfl)) rfl (Or.inl rfl) pm_M193 rfl rfl (Nat.le_of_ble_eq_true rfl) (Nat.le_of_ble_eq_true rfl) rfl rfl (Nat.le_of_ble_eq_true rfl) rfl rfl ?_
    refine pm_R_op pm_M193 (pc' := 1) (st' := [.int 0]) rfl rfl rfl ?_
    refine pm_R_lo pm_M193 (pc' := 3) (ls' := [.ref 41, .ref 49, .int 152, .int 0, .int 0]) (st' := []) rfl rfl rfl ?_
    refine pm_R_heq (pm_set_self (a := 49) (c := .inl (0, 1216, .inl (fun _ => 0))) (hh 49 (Nat.le_of_ble_eq_true rfl))).symm ?_
    refine p1_L2 (a := 49) (w := 152) (N := 1216) rfl rfl rfl (Nat.le_of_ble_eq_true rfl) (Nat.le_of_ble_eq_true rfl) (Nat.le_of_ble_eq_true rfl) (by decide) (by decide) (by decide) (by decide) (by decide) (fun g_10 => ?_) 152 0 _ rfl
    show pm_R _ 175 192 [.ref 41, .int 2, .int (-1), .int 0] [] _ _
    refine pm_R_br pm_M175 (pc' := 206) (pm_q175_1 (Nat.le_of_ble_eq_true rfl)) rfl ?_
    refine pm_R_lo pm_M175 (pc' := 207) (pm_q175_1 (Nat.le_of_ble_eq_true rfl)) rfl rfl ?_
    refine pm_R_ret pm_M175 (r := some (.int 0)) (pm_q175_1 (Nat.le_of_ble_eq_true rfl)) rfl ?_
    show pm_R _ 0 334 [.ref 0, .ref 16, .ref 41, .int 0] [.int 0, .int 0] _ _
    refine pm_R_br pm_M0 (pc' := 2121) (st' := []) (pm_q0_2 (Nat.le_of_ble_eq_true rfl)) rfl ?_
    exact p1_tail (hh 0 (Nat.le_of_ble_eq_true rfl)) (Nat.le_of_ble_eq_true rfl) (Nat.le_of_ble_eq_true rfl) (Nat.le_of_ble_eq_true rfl)
set_option maxRecDepth 100000 in
set_option maxHeartbeats 40000000 in
theorem p1_c2_eq3 (xs : Nat → Int32) (f : Nat → pm_E) (hh : ∀ i, i < 72 → f i = pm_fF 7 xs i) (x0 x1 x2 x3 x4 x5 x6 : Int32) (hx0 : xs 0 = x0) (hx1 : xs 1 = x1) (hx2 : xs 2 = x2) (hx3 : xs 3 = x3) (hx4 : xs 4 = x4) (hx5 : xs 5 = x5) (hx6 : xs 6 = x6) (hv : x1 = 3) : pm_R 100 0 306 [.ref 0, .ref 16, .ref 41, .int 0] [] (72, 52657, f) p1_Q := by
  subst hv
  refine pm_R_lo pm_M0 (pc' := 307) (pm_q0_1 (Nat.le_of_ble_eq_true rfl)) rfl rfl ?_
  refine pm_R_lo pm_M0 (pc' := 308) (pm_q0_1 (Nat.le_of_ble_eq_true rfl)) rfl rfl ?_
  refine pm_R_lo pm_M0 (pc' := 309) (pm_q0_1 (Nat.le_of_ble_eq_true rfl)) rfl rfl ?_
  refine pm_R_op pm_M0 (pc' := 310) (st' := [.int 1, .int 0, .ref 0, .ref 16]) (pm_q0_1 (Nat.le_of_ble_eq_true rfl)) rfl rfl ?_
  refine pm_R_op pm_M0 (pc' := 311) (st' := [.int 1, .ref 0, .ref 16]) (pm_q0_1 (Nat.le_of_ble_eq_true rfl)) rfl rfl ?_
  refine pm_R_iald pm_M0 (pc' := 312) (v := 3) (pm_q0_1 (Nat.le_of_ble_eq_true rfl)) (hh 0 (Nat.le_of_ble_eq_true rfl)) (Nat.le_of_ble_eq_true rfl) rfl hx1 rfl ?_
  refine pm_R_lo pm_M0 (pc' := 313) (pm_q0_1 (Nat.le_of_ble_eq_true rfl)) rfl rfl ?_
  refine pm_R_lo pm_M0 (pc' := 314) (pm_q0_1 (Nat.le_of_ble_eq_true rfl)) rfl rfl ?_
  refine pm_R_op pm_M0 (pc' := 315) (st' := [.int 2, .int 0, .ref 0, .int 3, .ref 16]) (pm_q0_1 (Nat.le_of_ble_eq_true rfl)) rfl rfl ?_
  refine pm_R_op pm_M0 (pc' := 316) (st' := [.int 2, .ref 0, .int 3, .ref 16]) (pm_q0_1 (Nat.le_of_ble_eq_true rfl)) rfl rfl ?_
  refine pm_R_iald pm_M0 (pc' := 317) (v := x2) (pm_q0_1 (Nat.le_of_ble_eq_true rfl)) (hh 0 (Nat.le_of_ble_eq_true rfl)) (Nat.le_of_ble_eq_true rfl) rfl hx2 rfl ?_
  refine pm_R_cv pm_M0 (pc' := 320) (a := 16) (ra := [.int x2, .int 3]) (rest := []) (ls' := [.ref 16, .int 3, .int x2, pm_no, pm_no, pm_no, pm_no]) (pm_q0_1 (Nat.le_of_ble_eq_true rfl)) rfl (Or.inl rfl) pm_M10 (hh 16 (Nat.le_of_ble_eq_true rfl)) rfl (Nat.le_of_ble_eq_true rfl) (Nat.le_of_ble_eq_true rfl) rfl rfl (Nat.le_of_ble_eq_true rfl) rfl rfl ?_
  refine pm_R_lo pm_M10 (pc' := 1) rfl rfl rfl ?_
  refine pm_R_get pm_M10 (pc' := 4) (v := .ref 17) rfl rfl (hh 16 (Nat.le_of_ble_eq_true rfl)) (Nat.le_of_ble_eq_true rfl) (Nat.le_of_ble_eq_true rfl) rfl rfl ?_
  refine pm_R_get pm_M10 (pc' := 7) (v := .int 0) rfl rfl (hh 17 (Nat.le_of_ble_eq_true rfl)) (Nat.le_of_ble_eq_true rfl) (Nat.le_of_ble_eq_true rfl) rfl rfl ?_
  refine pm_R_lo pm_M10 (pc' := 8) (ls' := [.ref 16, .int 3, .int x2, .int 0, pm_no, pm_no, pm_no]) (st' := []) rfl rfl rfl ?_
  refine pm_R_lo pm_M10 (pc' := 9) rfl rfl rfl ?_
  refine pm_R_get pm_M10 (pc' := 12) (v := .ref 17) rfl rfl (hh 16 (Nat.le_of_ble_eq_true rfl)) (Nat.le_of_ble_eq_true rfl) (Nat.le_of_ble_eq_true rfl) rfl rfl ?_
  refine pm_R_op pm_M10 (pc' := 13) (st' := [.int 0, .ref 17]) rfl rfl rfl ?_
  refine pm_R_put pm_M10 (pc' := 16) (fs' := [.ref 18, .int 0, .int 0, .int (-1), .ref 19, .ref 20, .ref 21, .ref 22, .ref 23]) rfl rfl rfl (hh 17 (Nat.le_of_ble_eq_true rfl)) (Nat.le_of_ble_eq_true rfl) (Nat.le_of_ble_eq_true rfl) (Nat.le_of_ble_eq_true rfl) rfl (Or.inl rfl) rfl rfl ?_
  refine pm_R_lo pm_M10 (pc' := 17) rfl rfl rfl ?_
  refine pm_R_get pm_M10 (pc' := 20) (v := .ref 17) rfl rfl (hh 16 (Nat.le_of_ble_eq_true rfl)) (Nat.le_of_ble_eq_true rfl) (Nat.le_of_ble_eq_true rfl) rfl rfl ?_
  refine pm_R_op pm_M10 (pc' := 21) (st' := [.int 0, .ref 17]) rfl rfl rfl ?_
  refine pm_R_put pm_M10 (pc' := 24) (fs' := [.ref 18, .int 0, .int 0, .int (-1), .ref 19, .ref 20, .ref 21, .ref 22, .ref 23]) rfl rfl rfl rfl (Nat.le_of_ble_eq_true rfl) (Nat.le_of_ble_eq_true rfl) (Nat.le_of_ble_eq_true rfl) rfl (Or.inl rfl) rfl rfl ?_
  refine pm_R_lo pm_M10 (pc' := 25) rfl rfl rfl ?_
  refine pm_R_get pm_M10 (pc' := 28) (v := .ref 17) rfl rfl (hh 16 (Nat.le_of_ble_eq_true rfl)) (Nat.le_of_ble_eq_true rfl) (Nat.le_of_ble_eq_true rfl) rfl rfl ?_
  refine pm_R_op pm_M10 (pc' := 29) (st' := [.int (-1), .ref 17]) rfl rfl rfl ?_
  refine pm_R_put pm_M10 (pc' := 32) (fs' := [.ref 18, .int 0, .int 0, .int (-1), .ref 19, .ref 20, .ref 21, .ref 22, .ref 23]) rfl rfl rfl rfl (Nat.le_of_ble_eq_true rfl) (Nat.le_of_ble_eq_true rfl) (Nat.le_of_ble_eq_true rfl) rfl (Or.inl rfl) rfl rfl ?_
  refine pm_R_lo pm_M10 (pc' := 33) rfl rfl rfl ?_
  refine pm_R_br pm_M10 (pc' := 36) (st' := []) rfl rfl ?_
  refine pm_R_lo pm_M10 (pc' := 37) rfl rfl rfl ?_
  refine pm_R_op pm_M10 (pc' := 38) (st' := [.int 4, .int 3]) rfl rfl rfl ?_
  refine pm_R_br pm_M10 (pc' := 44) (st' := []) rfl rfl ?_
  refine pm_R_lo pm_M10 (pc' := 45) rfl rfl rfl ?_
  refine pm_R_get pm_M10 (pc' := 48) (v := .ref 17) rfl rfl (hh 16 (Nat.le_of_ble_eq_true rfl)) (Nat.le_of_ble_eq_true rfl) (Nat.le_of_ble_eq_true rfl) rfl rfl ?_
  refine pm_R_get pm_M10 (pc' := 51) (v := .ref 23) rfl rfl rfl (Nat.le_of_ble_eq_true rfl) (Nat.le_of_ble_eq_true rfl) rfl rfl ?_
  refine pm_R_lo pm_M10 (pc' := 52) rfl rfl rfl ?_
  refine pm_R_iald pm_M10 (pc' := 53) (v := 0) rfl (hh 23 (Nat.le_of_ble_eq_true rfl)) (Nat.le_of_ble_eq_true rfl) rfl rfl rfl ?_
  refine pm_R_lo pm_M10 (pc' := 55) (ls' := [.ref 16, .int 3, .int x2, .int 0, .int 0, pm_no, pm_no]) (st' := []) rfl rfl rfl ?_
  refine pm_R_lo pm_M10 (pc' := 56) rfl rfl rfl ?_
  refine pm_R_op pm_M10 (pc' := 57) (st' := [.int (-1), .int x2]) rfl rfl rfl ?_
  refine pm_R_icmp pm_M10 (t := 64) (pc' := 60) rfl rfl rfl (fun c_1 => ?_) (fun c_1 => ?_)
  · refine pm_R_op pm_M10 (pc' := 65) (st' := [.int 0]) rfl rfl rfl ?_
    refine pm_R_lo pm_M10 (pc' := 67) (ls' := [.ref 16, .int 3, .int x2, .int 0, .int 0, .int 0, pm_no]) (st' := []) rfl rfl rfl ?_
    refine pm_R_lo pm_M10 (pc' := 69) rfl rfl rfl ?_
    refine pm_R_br pm_M10 (pc' := 85) (st' := []) rfl rfl ?_
    refine pm_R_lo pm_M10 (pc' := 86) rfl rfl rfl ?_
    refine pm_R_ifc pm_M10 (t := 95) (pc' := 89) rfl rfl rfl (fun c_2 => ?_) (fun c_2 => ?_)
    · refine pm_R_op pm_M10 (pc' := 97) (st' := [.int (-2)]) rfl rfl rfl ?_
      refine pm_R_ret pm_M10 (r := some (.int (-2))) rfl rfl ?_
      show pm_R _ 0 320 [.ref 0, .ref 16, .ref 41, .int 0] [.int (-2)] _ _
      refine pm_R_lo pm_M0 (pc' := 321) (pm_q0_1 (Nat.le_of_ble_eq_true rfl)) rfl rfl ?_
      refine pm_R_lo pm_M0 (pc' := 322) (pm_q0_1 (Nat.le_of_ble_eq_true rfl)) rfl rfl ?_
      refine pm_R_lo pm_M0 (pc' := 323) (pm_q0_1 (Nat.le_of_ble_eq_true rfl)) rfl rfl ?_
      refine pm_R_op pm_M0 (pc' := 324) (st' := [.int 1, .int 0, .ref 0, .ref 41, .int (-2)]) (pm_q0_1 (Nat.le_of_ble_eq_true rfl)) rfl rfl ?_
      refine pm_R_op pm_M0 (pc' := 325) (st' := [.int 1, .ref 0, .ref 41, .int (-2)]) (pm_q0_1 (Nat.le_of_ble_eq_true rfl)) rfl rfl ?_
      refine pm_R_iald pm_M0 (pc' := 326) (v := 3) (pm_q0_1 (Nat.le_of_ble_eq_true rfl)) (hh 0 (Nat.le_of_ble_eq_true rfl)) (Nat.le_of_ble_eq_true rfl) rfl hx1 rfl ?_
      refine pm_R_lo pm_M0 (pc' := 327) (pm_q0_1 (Nat.le_of_ble_eq_true rfl)) rfl rfl ?_
      refine pm_R_lo pm_M0 (pc' := 328) (pm_q0_1 (Nat.le_of_ble_eq_true rfl)) rfl rfl ?_
      refine pm_R_op pm_M0 (pc' := 329) (st' := [.int 2, .int 0, .ref 0, .int 3, .ref 41, .int (-2)]) (pm_q0_1 (Nat.le_of_ble_eq_true rfl)) rfl rfl ?_
      refine pm_R_op pm_M0 (pc' := 330) (st' := [.int 2, .ref 0, .int 3, .ref 41, .int (-2)]) (pm_q0_1 (Nat.le_of_ble_eq_true rfl)) rfl rfl ?_
      refine pm_R_iald pm_M0 (pc' := 331) (v := x2) (pm_q0_1 (Nat.le_of_ble_eq_true rfl)) (hh 0 (Nat.le_of_ble_eq_true rfl)) (Nat.le_of_ble_eq_true rfl) rfl hx2 rfl ?_
      refine pm_R_cv pm_M0 (pc' := 334) (a := 41) (ra := [.int x2, .int 3]) (rest := [.int (-2)]) (ls' := [.ref 41, .int 3, .int x2, pm_no]) (pm_q0_1 (Nat.le_of_ble_eq_true rfl)) rfl (Or.inl rfl) pm_M175 (hh 41 (Nat.le_of_ble_eq_true rfl)) rfl (Nat.le_of_ble_eq_true rfl) (Nat.le_of_ble_eq_true rfl) rfl rfl (Nat.le_of_ble_eq_true rfl) rfl rfl ?_
      refine pm_R_lo pm_M175 (pc' := 1) rfl rfl rfl ?_
      refine pm_R_op pm_M175 (pc' := 2) (st' := [.int 0, .ref 41]) rfl rfl rfl ?_
      refine pm_R_put pm_M175 (pc' := 5) (fs' := [.int 0, .ref 42, .ref 43, .ref 44, .ref 45, .ref 46, .ref 47, .ref 48, .ref 49, .ref 50, .int 0, .int 0, .int 0, .int 0, .int 0, .long 0, .int 0, .int 0, .int 0, .ref 51, .ref 52, .int 0, .int 0, .int 0, .int 0, .ref 53, .int 0, .int 0, .ref 54, .ref 55, .ref 56, .int 0, .ref 57, .ref 58, .ref 59, .ref 60, .ref 61, .ref 62, .ref 63, .ref 64, .ref 65, .ref 66, .int 0, .int 0, .int 0, .ref 67, .ref 68, .int 0, .ref 69, .int 0, .int 0, .ref 70, .ref 71]) rfl rfl rfl (hh 41 (Nat.le_of_ble_eq_true rfl)) (Nat.le_of_ble_eq_true rfl) (Nat.le_of_ble_eq_true rfl) (Nat.le_of_ble_eq_true rfl) rfl (Or.inl rfl) rfl rfl ?_
      refine pm_R_lo pm_M175 (pc' := 6) rfl rfl rfl ?_
      refine pm_R_lo pm_M175 (pc' := 7) rfl rfl rfl ?_
      refine pm_R_get pm_M175 (pc' := 10) (v := .ref 43) rfl rfl rfl (Nat.le_of_ble_eq_true rfl) (Nat.le_of_ble_eq_true rfl) rfl rfl ?_
      refine pm_R_op pm_M175 (pc' := 11) (st' := [.int 0, .ref 43, .ref 41]) rfl rfl rfl ?_
      refine pm_R_iald pm_M175 (pc' := 12) (v := 0) rfl (hh 43 (Nat.le_of_ble_eq_true rfl)) (Nat.le_of_ble_eq_true rfl) rfl rfl rfl ?_
      refine pm_R_put pm_M175 (pc' := 15) (fs' := [.int 0, .ref 42, .ref 43, .ref 44, .ref 45, .ref 46, .ref 47, .ref 48, .ref 49, .ref 50, .int 0, .int 0, .int 0, .int 0, .int 0, .long 0, .int 0, .int 0, .int 0, .ref 51, .ref 52, .int 0, .int 0, .int 0, .int 0, .ref 53, .int 0, .int 0, .ref 54, .ref 55, .ref 56, .int 0, .ref 57, .ref 58, .ref 59, .ref 60, .ref 61, .ref 62, .ref 63, .ref 64, .ref 65, .ref 66, .int 0, .int 0, .int 0, .ref 67, .ref 68, .int 0, .ref 69, .int 0, .int 0, .ref 70, .ref 71]) rfl rfl rfl rfl (Nat.le_of_ble_eq_true rfl) (Nat.le_of_ble_eq_true rfl) (Nat.le_of_ble_eq_true rfl) rfl (Or.inl rfl) rfl rfl ?_
      refine pm_R_lo pm_M175 (pc' := 16) rfl rfl rfl ?_
      refine pm_R_get pm_M175 (pc' := 19) (v := .ref 43) rfl rfl rfl (Nat.le_of_ble_eq_true rfl) (Nat.le_of_ble_eq_true rfl) rfl rfl ?_
      refine pm_R_op pm_M175 (pc' := 20) (st' := [.int 0, .ref 43]) rfl rfl rfl ?_
      refine pm_R_op pm_M175 (pc' := 21) (st' := [.int 0, .int 0, .ref 43]) rfl rfl rfl ?_
      refine pm_R_iast pm_M175 (pc' := 22) rfl (hh 43 (Nat.le_of_ble_eq_true rfl)) (Nat.le_of_ble_eq_true rfl) (Nat.le_of_ble_eq_true rfl) rfl rfl ?_
      refine pm_R_lo pm_M175 (pc' := 23) rfl rfl rfl ?_
      refine pm_R_get pm_M175 (pc' := 26) (v := .ref 44) rfl rfl rfl (Nat.le_of_ble_eq_true rfl) (Nat.le_of_ble_eq_true rfl) rfl rfl ?_
      refine pm_R_op pm_M175 (pc' := 27) (st' := [.int 0, .ref 44]) rfl rfl rfl ?_
      refine pm_R_op pm_M175 (pc' := 28) (st' := [.int 0, .int 0, .ref 44]) rfl rfl rfl ?_
      refine pm_R_iast pm_M175 (pc' := 29) rfl (hh 44 (Nat.le_of_ble_eq_true rfl)) (Nat.le_of_ble_eq_true rfl) (Nat.le_of_ble_eq_true rfl) rfl rfl ?_
      refine pm_R_lo pm_M175 (pc' := 30) rfl rfl rfl ?_
      refine pm_R_get pm_M175 (pc' := 33) (v := .ref 45) rfl rfl rfl (Nat.le_of_ble_eq_true rfl) (Nat.le_of_ble_eq_true rfl) rfl rfl ?_
      refine pm_R_op pm_M175 (pc' := 34) (st' := [.int 0, .ref 45]) rfl rfl rfl ?_
      refine pm_R_op pm_M175 (pc' := 35) (st' := [.int (-1), .int 0, .ref 45]) rfl rfl rfl ?_
      refine pm_R_iast pm_M175 (pc' := 36) rfl (hh 45 (Nat.le_of_ble_eq_true rfl)) (Nat.le_of_ble_eq_true rfl) (Nat.le_of_ble_eq_true rfl) rfl rfl ?_
      refine pm_R_lo pm_M175 (pc' := 37) rfl rfl rfl ?_
      refine pm_R_op pm_M175 (pc' := 38) (st' := [.int 0, .int 3]) rfl rfl rfl ?_
      refine pm_R_op pm_M175 (pc' := 39) (st' := [.int 3, .int 0, .int 3]) rfl rfl rfl ?_
      refine pm_R_cs pm_M175 (pc' := 42) (ra := [.int 3, .int 0, .int 3]) (rest := []) (ls' := [.int 3, .int 0, .int 3]) rfl rfl (Or.inl rfl) pm_M174 rfl rfl (Nat.le_of_ble_eq_true rfl) rfl rfl ?_
      refine pm_R_lo pm_M174 (pc' := 1) rfl rfl rfl ?_
      refine pm_R_lo pm_M174 (pc' := 2) rfl rfl rfl ?_
      refine pm_R_br pm_M174 (pc' := 5) (st' := []) rfl rfl ?_
      refine pm_R_lo pm_M174 (pc' := 6) rfl rfl rfl ?_
      refine pm_R_lo pm_M174 (pc' := 7) rfl rfl rfl ?_
      refine pm_R_br pm_M174 (pc' := 10) (st' := []) rfl rfl ?_
      refine pm_R_op pm_M174 (pc' := 11) (st' := [.int 1]) rfl rfl rfl ?_
      refine pm_R_br pm_M174 (pc' := 15) rfl rfl ?_
      refine pm_R_ret pm_M174 (r := some (.int 1)) rfl rfl ?_
      show pm_R _ 175 42 [.ref 41, .int 3, .int x2, pm_no] [.int 1] _ _
      refine pm_R_br pm_M175 (pc' := 45) (st' := []) rfl rfl ?_
      refine pm_R_lo pm_M175 (pc' := 46) rfl rfl rfl ?_
      refine pm_R_op pm_M175 (pc' := 47) (st' := [.int (-1), .int x2]) rfl rfl rfl ?_
      refine pm_R_icmp pm_M175 (t := 66) (pc' := 50) rfl rfl rfl (fun c_3 => ?_) (fun c_3 => by exact absurd c_1 c_3)
      refine pm_R_lo pm_M175 (pc' := 67) rfl rfl rfl ?_
      refine pm_R_lo pm_M175 (pc' := 68) rfl rfl rfl ?_
      refine pm_R_lo pm_M175 (pc' := 69) rfl rfl rfl ?_
      refine pm_R_cv pm_M175 (pc' := 72) (a := 41) (ra := [.int x2, .int 3]) (rest := []) (ls' := [.ref 41, .int 3, .int x2]) rfl rfl (Or.inl rfl) pm_M177 rfl rfl (Nat.le_of_ble_eq_true rfl) (Nat.le_of_ble_eq_true rfl) rfl rfl (Nat.le_of_ble_eq_true rfl) rfl rfl ?_
      refine pm_R_lo pm_M177 (pc' := 1) rfl rfl rfl ?_
      refine pm_R_op pm_M177 (pc' := 2) (st' := [.int 0, .int x2]) rfl rfl rfl ?_
      refine pm_R_lo pm_M177 (pc' := 3) rfl rfl rfl ?_
      refine pm_R_get pm_M177 (pc' := 6) (v := .ref 46) rfl rfl rfl (Nat.le_of_ble_eq_true rfl) (Nat.le_of_ble_eq_true rfl) rfl rfl ?_
      refine pm_R_lo pm_M177 (pc' := 7) rfl rfl rfl ?_
      refine pm_R_iald pm_M177 (pc' := 8) (v := 0) rfl (hh 46 (Nat.le_of_ble_eq_true rfl)) (Nat.le_of_ble_eq_true rfl) rfl rfl rfl ?_
      refine pm_R_op pm_M177 (pc' := 9) (st' := [.int 1, .int 0, .int 0, .int x2]) rfl rfl rfl ?_
      refine pm_R_op pm_M177 (pc' := 10) (st' := [.int (-1), .int 0, .int x2]) rfl rfl rfl ?_
      refine pm_R_cs pm_M177 (pc' := 13) (ra := [.int (-1), .int 0, .int x2]) (rest := []) (ls' := [.int x2, .int 0, .int (-1)]) rfl rfl (Or.inl rfl) pm_M174 rfl rfl (Nat.le_of_ble_eq_true rfl) rfl rfl ?_
      refine pm_R_lo pm_M174 (pc' := 1) rfl rfl rfl ?_
      refine pm_R_lo pm_M174 (pc' := 2) rfl rfl rfl ?_
      refine pm_R_icmp pm_M174 (t := 14) (pc' := 5) rfl rfl rfl (fun c_4 => ?_) (fun c_4 => by exact absurd c_2 c_4)
      refine pm_R_op pm_M174 (pc' := 15) (st' := [.int 0]) rfl rfl rfl ?_
      refine pm_R_ret pm_M174 (r := some (.int 0)) rfl rfl ?_
      show pm_R _ 177 13 [.ref 41, .int 3, .int x2] [.int 0] _ _
      refine pm_R_ret pm_M177 (r := some (.int 0)) rfl rfl ?_
      show pm_R _ 175 72 [.ref 41, .int 3, .int x2, pm_no] [.int 0] _ _
      refine pm_R_br pm_M175 (pc' := 75) (st' := []) rfl rfl ?_
      refine pm_R_op pm_M175 (pc' := 77) (st' := [.int (-2)]) rfl rfl rfl ?_
      refine pm_R_ret pm_M175 (r := some (.int (-2))) rfl rfl ?_
      show pm_R _ 0 334 [.ref 0, .ref 16, .ref 41, .int 0] [.int (-2), .int (-2)] _ _
      refine pm_R_br pm_M0 (pc' := 2121) (st' := []) (pm_q0_2 (Nat.le_of_ble_eq_true rfl)) rfl ?_
      exact p1_tail (hh 0 (Nat.le_of_ble_eq_true rfl)) (Nat.le_of_ble_eq_true rfl) (Nat.le_of_ble_eq_true rfl) (Nat.le_of_ble_eq_true rfl)
    · refine pm_R_lo pm_M10 (pc' := 90) rfl rfl rfl ?_
      refine pm_R_lo pm_M10 (pc' := 92) rfl rfl rfl ?_
      refine pm_R_icmp pm_M10 (t := 98) (pc' := 95) rfl rfl rfl (fun c_5 => by exact absurd c_5 c_2) (fun c_5 => ?_)
      refine pm_R_op pm_M10 (pc' := 97) (st' := [.int (-2)]) rfl rfl rfl ?_
      refine pm_R_ret pm_M10 (r := some (.int (-2))) rfl rfl ?_
      show pm_R _ 0 320 [.ref 0, .ref 16, .ref 41, .int 0] [.int (-2)] _ _
      refine pm_R_lo pm_M0 (pc' := 321) (pm_q0_1 (Nat.le_of_ble_eq_true rfl)) rfl rfl ?_
      refine pm_R_lo pm_M0 (pc' := 322) (pm_q0_1 (Nat.le_of_ble_eq_true rfl)) rfl rfl ?_
      refine pm_R_lo pm_M0 (pc' := 323) (pm_q0_1 (Nat.le_of_ble_eq_true rfl)) rfl rfl ?_
      refine pm_R_op pm_M0 (pc' := 324) (st' := [.int 1, .int 0, .ref 0, .ref 41, .int (-2)]) (pm_q0_1 (Nat.le_of_ble_eq_true rfl)) rfl rfl ?_
      refine pm_R_op pm_M0 (pc' := 325) (st' := [.int 1, .ref 0, .ref 41, .int (-2)]) (pm_q0_1 (Nat.le_of_ble_eq_true rfl)) rfl rfl ?_
      refine pm_R_iald pm_M0 (pc' := 326) (v := 3) (pm_q0_1 (Nat.le_of_ble_eq_true rfl)) (hh 0 (Nat.le_of_ble_eq_true rfl)) (Nat.le_of_ble_eq_true rfl) rfl hx1 rfl ?_
      refine pm_R_lo pm_M0 (pc' := 327) (pm_q0_1 (Nat.le_of_ble_eq_true rfl)) rfl rfl ?_
      refine pm_R_lo pm_M0 (pc' := 328) (pm_q0_1 (Nat.le_of_ble_eq_true rfl)) rfl rfl ?_
      refine pm_R_op pm_M0 (pc' := 329) (st' := [.int 2, .int 0, .ref 0, .int 3, .ref 41, .int (-2)]) (pm_q0_1 (Nat.le_of_ble_eq_true rfl)) rfl rfl ?_
      refine pm_R_op pm_M0 (pc' := 330) (st' := [.int 2, .ref 0, .int 3, .ref 41, .int (-2)]) (pm_q0_1 (Nat.le_of_ble_eq_true rfl)) rfl rfl ?_
      refine pm_R_iald pm_M0 (pc' := 331) (v := x2) (pm_q0_1 (Nat.le_of_ble_eq_true rfl)) (hh 0 (Nat.le_of_ble_eq_true rfl)) (Nat.le_of_ble_eq_true rfl) rfl hx2 rfl ?_
      refine pm_R_cv pm_M0 (pc' := 334) (a := 41) (ra := [.int x2, .int 3]) (rest := [.int (-2)]) (ls' := [.ref 41, .int 3, .int x2, pm_no]) (pm_q0_1 (Nat.le_of_ble_eq_true rfl)) rfl (Or.inl rfl) pm_M175 (hh 41 (Nat.le_of_ble_eq_true rfl)) rfl (Nat.le_of_ble_eq_true rfl) (Nat.le_of_ble_eq_true rfl) rfl rfl (Nat.le_of_ble_eq_true rfl) rfl rfl ?_
      refine pm_R_lo pm_M175 (pc' := 1) rfl rfl rfl ?_
      refine pm_R_op pm_M175 (pc' := 2) (st' := [.int 0, .ref 41]) rfl rfl rfl ?_
      refine pm_R_put pm_M175 (pc' := 5) (fs' := [.int 0, .ref 42, .ref 43, .ref 44, .ref 45, .ref 46, .ref 47, .ref 48, .ref 49, .ref 50, .int 0, .int 0, .int 0, .int 0, .int 0, .long 0, .int 0, .int 0, .int 0, .ref 51, .ref 52, .int 0, .int 0, .int 0, .int 0, .ref 53, .int 0, .int 0, .ref 54, .ref 55, .ref 56, .int 0, .ref 57, .ref 58, .ref 59, .ref 60, .ref 61, .ref 62, .ref 63, .ref 64, .ref 65, .ref 66, .int 0, .int 0, .int 0, .ref 67, .ref 68, .int 0, .ref 69, .int 0, .int 0, .ref 70, .ref 71]) rfl rfl rfl (hh 41 (Nat.le_of_ble_eq_true rfl)) (Nat.le_of_ble_eq_true rfl) (Nat.le_of_ble_eq_true rfl) (Nat.le_of_ble_eq_true rfl) rfl (Or.inl rfl) rfl rfl ?_
      refine pm_R_lo pm_M175 (pc' := 6) rfl rfl rfl ?_
      refine pm_R_lo pm_M175 (pc' := 7) rfl rfl rfl ?_
      refine pm_R_get pm_M175 (pc' := 10) (v := .ref 43) rfl rfl rfl (Nat.le_of_ble_eq_true rfl) (Nat.le_of_ble_eq_true rfl) rfl rfl ?_
      refine pm_R_op pm_M175 (pc' := 11) (st' := [.int 0, .ref 43, .ref 41]) rfl rfl rfl ?_
      refine pm_R_iald pm_M175 (pc' := 12) (v := 0) rfl (hh 43 (Nat.le_of_ble_eq_true rfl)) (Nat.le_of_ble_eq_true rfl) rfl rfl rfl ?_
      refine pm_R_put pm_M175 (pc' := 15) (fs' := [.int 0, .ref 42, .ref 43, .ref 44, .ref 45, .ref 46, .ref 47, .ref 48, .ref 49, .ref 50, .int 0, .int 0, .int 0, .int 0, .int 0, .long 0, .int 0, .int 0, .int 0, .ref 51, .ref 52, .int 0, .int 0, .int 0, .int 0, .ref 53, .int 0, .int 0, .ref 54, .ref 55, .ref 56, .int 0, .ref 57, .ref 58, .ref 59, .ref 60, .ref 61, .ref 62, .ref 63, .ref 64, .ref 65, .ref 66, .int 0, .int 0, .int 0, .ref 67, .ref 68, .int 0, .ref 69, .int 0, .int 0, .ref 70, .ref 71]) rfl rfl rfl rfl (Nat.le_of_ble_eq_true rfl) (Nat.le_of_ble_eq_true rfl) (Nat.le_of_ble_eq_true rfl) rfl (Or.inl rfl) rfl rfl ?_
      refine pm_R_lo pm_M175 (pc' := 16) rfl rfl rfl ?_
      refine pm_R_get pm_M175 (pc' := 19) (v := .ref 43) rfl rfl rfl (Nat.le_of_ble_eq_true rfl) (Nat.le_of_ble_eq_true rfl) rfl rfl ?_
      refine pm_R_op pm_M175 (pc' := 20) (st' := [.int 0, .ref 43]) rfl rfl rfl ?_
      refine pm_R_op pm_M175 (pc' := 21) (st' := [.int 0, .int 0, .ref 43]) rfl rfl rfl ?_
      refine pm_R_iast pm_M175 (pc' := 22) rfl (hh 43 (Nat.le_of_ble_eq_true rfl)) (Nat.le_of_ble_eq_true rfl) (Nat.le_of_ble_eq_true rfl) rfl rfl ?_
      refine pm_R_lo pm_M175 (pc' := 23) rfl rfl rfl ?_
      refine pm_R_get pm_M175 (pc' := 26) (v := .ref 44) rfl rfl rfl (Nat.le_of_ble_eq_true rfl) (Nat.le_of_ble_eq_true rfl) rfl rfl ?_
      refine pm_R_op pm_M175 (pc' := 27) (st' := [.int 0, .ref 44]) rfl rfl rfl ?_
      refine pm_R_op pm_M175 (pc' := 28) (st' := [.int 0, .int 0, .ref 44]) rfl rfl rfl ?_
      refine pm_R_iast pm_M175 (pc' := 29) rfl (hh 44 (Nat.le_of_ble_eq_true rfl)) (Nat.le_of_ble_eq_true rfl) (Nat.le_of_ble_eq_true rfl) rfl rfl ?_
      refine pm_R_lo pm_M175 (pc' := 30) rfl rfl rfl ?_
      refine pm_R_get pm_M175 (pc' := 33) (v := .ref 45) rfl rfl rfl (Nat.le_of_ble_eq_true rfl) (Nat.le_of_ble_eq_true rfl) rfl rfl ?_
      refine pm_R_op pm_M175 (pc' := 34) (st' := [.int 0, .ref 45]) rfl rfl rfl ?_
      refine pm_R_op pm_M175 (pc' := 35) (st' := [.int (-1), .int 0, .ref 45]) rfl rfl rfl ?_
      refine pm_R_iast pm_M175 (pc' := 36) rfl (hh 45 (Nat.le_of_ble_eq_true rfl)) (Nat.le_of_ble_eq_true rfl) (Nat.le_of_ble_eq_true rfl) rfl rfl ?_
      refine pm_R_lo pm_M175 (pc' := 37) rfl rfl rfl ?_
      refine pm_R_op pm_M175 (pc' := 38) (st' := [.int 0, .int 3]) rfl rfl rfl ?_
      refine pm_R_op pm_M175 (pc' := 39) (st' := [.int 3, .int 0, .int 3]) rfl rfl rfl ?_
      refine pm_R_cs pm_M175 (pc' := 42) (ra := [.int 3, .int 0, .int 3]) (rest := []) (ls' := [.int 3, .int 0, .int 3]) rfl rfl (Or.inl rfl) pm_M174 rfl rfl (Nat.le_of_ble_eq_true rfl) rfl rfl ?_
      refine pm_R_lo pm_M174 (pc' := 1) rfl rfl rfl ?_
      refine pm_R_lo pm_M174 (pc' := 2) rfl rfl rfl ?_
      refine pm_R_br pm_M174 (pc' := 5) (st' := []) rfl rfl ?_
      refine pm_R_lo pm_M174 (pc' := 6) rfl rfl rfl ?_
      refine pm_R_lo pm_M174 (pc' := 7) rfl rfl rfl ?_
      refine pm_R_br pm_M174 (pc' := 10) (st' := []) rfl rfl ?_
      refine pm_R_op pm_M174 (pc' := 11) (st' := [.int 1]) rfl rfl rfl ?_
      refine pm_R_br pm_M174 (pc' := 15) rfl rfl ?_
      refine pm_R_ret pm_M174 (r := some (.int 1)) rfl rfl ?_
      show pm_R _ 175 42 [.ref 41, .int 3, .int x2, pm_no] [.int 1] _ _
      refine pm_R_br pm_M175 (pc' := 45) (st' := []) rfl rfl ?_
      refine pm_R_lo pm_M175 (pc' := 46) rfl rfl rfl ?_
      refine pm_R_op pm_M175 (pc' := 47) (st' := [.int (-1), .int x2]) rfl rfl rfl ?_
      refine pm_R_icmp pm_M175 (t := 66) (pc' := 50) rfl rfl rfl (fun c_6 => ?_) (fun c_6 => by exact absurd c_1 c_6)
      refine pm_R_lo pm_M175 (pc' := 67) rfl rfl rfl ?_
      refine pm_R_lo pm_M175 (pc' := 68) rfl rfl rfl ?_
      refine pm_R_lo pm_M175 (pc' := 69) rfl rfl rfl ?_
      refine pm_R_cv pm_M175 (pc' := 72) (a := 41) (ra := [.int x2, .int 3]) (rest := []) (ls' := [.ref 41, .int 3, .int x2]) rfl rfl (Or.inl rfl) pm_M177 rfl rfl (Nat.le_of_ble_eq_true rfl) (Nat.le_of_ble_eq_true rfl) rfl rfl (Nat.le_of_ble_eq_true rfl) rfl rfl ?_
      refine pm_R_lo pm_M177 (pc' := 1) rfl rfl rfl ?_
      refine pm_R_op pm_M177 (pc' := 2) (st' := [.int 0, .int x2]) rfl rfl rfl ?_
      refine pm_R_lo pm_M177 (pc' := 3) rfl rfl rfl ?_
      refine pm_R_get pm_M177 (pc' := 6) (v := .ref 46) rfl rfl rfl (Nat.le_of_ble_eq_true rfl) (Nat.le_of_ble_eq_true rfl) rfl rfl ?_
      refine pm_R_lo pm_M177 (pc' := 7) rfl rfl rfl ?_
      refine pm_R_iald pm_M177 (pc' := 8) (v := 0) rfl (hh 46 (Nat.le_of_ble_eq_true rfl)) (Nat.le_of_ble_eq_true rfl) rfl rfl rfl ?_
      refine pm_R_op pm_M177 (pc' := 9) (st' := [.int 1, .int 0, .int 0, .int x2]) rfl rfl rfl ?_
      refine pm_R_op pm_M177 (pc' := 10) (st' := [.int (-1), .int 0, .int x2]) rfl rfl rfl ?_
      refine pm_R_cs pm_M177 (pc' := 13) (ra := [.int (-1), .int 0, .int x2]) (rest := []) (ls' := [.int x2, .int 0, .int (-1)]) rfl rfl (Or.inl rfl) pm_M174 rfl rfl (Nat.le_of_ble_eq_true rfl) rfl rfl ?_
      refine pm_R_lo pm_M174 (pc' := 1) rfl rfl rfl ?_
      refine pm_R_lo pm_M174 (pc' := 2) rfl rfl rfl ?_
      refine pm_R_icmp pm_M174 (t := 14) (pc' := 5) rfl rfl rfl (fun c_7 => by exact absurd c_7 c_2) (fun c_7 => ?_)
      refine pm_R_lo pm_M174 (pc' := 6) rfl rfl rfl ?_
      refine pm_R_lo pm_M174 (pc' := 7) rfl rfl rfl ?_
      refine pm_R_icmp pm_M174 (t := 14) (pc' := 10) rfl rfl rfl (fun c_8 => ?_) (fun c_8 => by have z0 : ((-1) : Int32).toInt = -1 := (by decide); have z1 : ((0) : Int32).toInt = 0 := (by decide); have q0 := (Int32.le_iff_toInt_le.mp (Int32.not_lt.mp c_2)); have q1 := (Int32.le_iff_toInt_le.mp (Int32.not_lt.mp c_8)); exfalso; omega)
      refine pm_R_op pm_M174 (pc' := 15) (st' := [.int 0]) rfl rfl rfl ?_
      refine pm_R_ret pm_M174 (r := some (.int 0)) rfl rfl ?_
      show pm_R _ 177 13 [.ref 41, .int 3, .int x2] [.int 0] _ _
      refine pm_R_ret pm_M177 (r := some (.int 0)) rfl rfl ?_
      show pm_R _ 175 72 [.ref 41, .int 3, .int x2, pm_no] [.int 0] _ _
      refine pm_R_br pm_M175 (pc' := 75) (st' := []) rfl rfl ?_
      refine pm_R_op pm_M175 (pc' := 77) (st' := [.int (-2)]) rfl rfl rfl ?_
      refine pm_R_ret pm_M175 (r := some (.int (-2))) rfl rfl ?_
      show pm_R _ 0 334 [.ref 0, .ref 16, .ref 41, .int 0] [.int (-2), .int (-2)] _ _
      refine pm_R_br pm_M0 (pc' := 2121) (st' := []) (pm_q0_2 (Nat.le_of_ble_eq_true rfl)) rfl ?_
      exact p1_tail (hh 0 (Nat.le_of_ble_eq_true rfl)) (Nat.le_of_ble_eq_true rfl) (Nat.le_of_ble_eq_true rfl) (Nat.le_of_ble_eq_true rfl)
  · have c_1 : x2 = (-1) := Classical.not_not.mp c_1
    subst c_1
    show pm_R _ 10 60 [.ref 16, .int 3, .int (-1), .int 0, .int 0, pm_no, pm_no] [] _ _
    refine pm_R_op pm_M10 (pc' := 61) (st' := [.int 1]) rfl rfl rfl ?_
    refine pm_R_br pm_M10 (pc' := 65) rfl rfl ?_
    refine pm_R_lo pm_M10 (pc' := 67) (ls' := [.ref 16, .int 3, .int (-1), .int 0, .int 0, .int 1, pm_no]) (st' := []) rfl rfl rfl ?_
    refine pm_R_lo pm_M10 (pc' := 69) rfl rfl rfl ?_
    refine pm_R_br pm_M10 (pc' := 72) (st' := []) rfl rfl ?_
    refine pm_R_lo pm_M10 (pc' := 74) rfl rfl rfl ?_
    refine pm_R_stat pm_M10 (pc' := 77) rfl rfl rfl ?_
    refine pm_R_lo pm_M10 (pc' := 78) rfl rfl rfl ?_
    refine pm_R_iald pm_M10 (pc' := 79) (v := 2) rfl (hh 1 (Nat.le_of_ble_eq_true rfl)) (Nat.le_of_ble_eq_true rfl) rfl rfl rfl ?_
    refine pm_R_br pm_M10 (pc' := 98) (st' := []) rfl rfl ?_
    refine pm_R_lo pm_M10 (pc' := 100) rfl rfl rfl ?_
    refine pm_R_br pm_M10 (pc' := 103) (st' := []) rfl rfl ?_
    refine pm_R_lo pm_M10 (pc' := 105) rfl rfl rfl ?_
    refine pm_R_br pm_M10 (pc' := 109) rfl rfl ?_
    refine pm_R_lo pm_M10 (pc' := 111) (ls' := [.ref 16, .int 3, .int (-1), .int 0, .int 0, .int 1, .int 0]) (st' := []) rfl rfl rfl ?_
    refine pm_R_lo pm_M10 (pc' := 112) rfl rfl rfl ?_
    refine pm_R_get pm_M10 (pc' := 115) (v := .ref 25) rfl rfl (hh 16 (Nat.le_of_ble_eq_true rfl)) (Nat.le_of_ble_eq_true rfl) (Nat.le_of_ble_eq_true rfl) rfl rfl ?_
    refine pm_R_lo pm_M10 (pc' := 116) rfl rfl rfl ?_
    refine pm_R_lo pm_M10 (pc' := 117) (pm_q10_1 (Nat.le_of_ble_eq_true rfl)) rfl rfl ?_
    refine pm_R_cv pm_M10 (pc' := 120) (a := 25) (ra := [.int 3, .int 0]) (rest := []) (ls' := [.ref 25, .int 0, .int 3, pm_no]) (pm_q10_1 (Nat.le_of_ble_eq_true rfl)) rfl (Or.inl rfl) pm_M11 (hh 25 (Nat.le_of_ble_eq_true rfl)) rfl (Nat.le_of_ble_eq_true rfl) (Nat.le_of_ble_eq_true rfl) rfl rfl (Nat.le_of_ble_eq_true rfl) rfl rfl ?_
    refine pm_R_lo pm_M11 (pc' := 1) rfl rfl rfl ?_
    refine pm_R_cv pm_M11 (pc' := 4) (a := 25) (ra := []) (rest := []) (ls' := [.ref 25]) rfl rfl (Or.inl rfl) pm_M12 (hh 25 (Nat.le_of_ble_eq_true rfl)) rfl (Nat.le_of_ble_eq_true rfl) (Nat.le_of_ble_eq_true rfl) rfl rfl (Nat.le_of_ble_eq_true rfl) rfl rfl ?_
    refine pm_R_lo pm_M12 (pc' := 1) rfl rfl rfl ?_
    refine pm_R_op pm_M12 (pc' := 2) (st' := [.int 0, .ref 25]) rfl rfl rfl ?_
    refine pm_R_put pm_M12 (pc' := 5) (fs' := [.ref 30, .int 0, .int (-1), .ref 26, .int 0, .ref 27, .int 0, .ref 28, .int 4, .int (-1), .ref 29]) rfl rfl rfl (hh 25 (Nat.le_of_ble_eq_true rfl)) (Nat.le_of_ble_eq_true rfl) (Nat.le_of_ble_eq_true rfl) (Nat.le_of_ble_eq_true rfl) rfl (Or.inl rfl) rfl rfl ?_
    refine pm_R_lo pm_M12 (pc' := 6) rfl rfl rfl ?_
    refine pm_R_op pm_M12 (pc' := 7) (st' := [.int (-1), .ref 25]) rfl rfl rfl ?_
    refine pm_R_put pm_M12 (pc' := 10) (fs' := [.ref 30, .int 0, .int (-1), .ref 26, .int 0, .ref 27, .int 0, .ref 28, .int 4, .int (-1), .ref 29]) rfl rfl rfl rfl (Nat.le_of_ble_eq_true rfl) (Nat.le_of_ble_eq_true rfl) (Nat.le_of_ble_eq_true rfl) rfl (Or.inl rfl) rfl rfl ?_
    refine pm_R_lo pm_M12 (pc' := 11) rfl rfl rfl ?_
    refine pm_R_op pm_M12 (pc' := 12) (st' := [.int 0, .ref 25]) rfl rfl rfl ?_
    refine pm_R_put pm_M12 (pc' := 15) (fs' := [.ref 30, .int 0, .int (-1), .ref 26, .int 0, .ref 27, .int 0, .ref 28, .int 4, .int (-1), .ref 29]) rfl rfl rfl rfl (Nat.le_of_ble_eq_true rfl) (Nat.le_of_ble_eq_true rfl) (Nat.le_of_ble_eq_true rfl) rfl (Or.inl rfl) rfl rfl ?_
    refine pm_R_lo pm_M12 (pc' := 16) rfl rfl rfl ?_
    refine pm_R_op pm_M12 (pc' := 17) (st' := [.int 0, .ref 25]) rfl rfl rfl ?_
    refine pm_R_put pm_M12 (pc' := 20) (fs' := [.ref 30, .int 0, .int (-1), .ref 26, .int 0, .ref 27, .int 0, .ref 28, .int 4, .int (-1), .ref 29]) rfl rfl rfl rfl (Nat.le_of_ble_eq_true rfl) (Nat.le_of_ble_eq_true rfl) (Nat.le_of_ble_eq_true rfl) rfl (Or.inl rfl) rfl rfl ?_
    refine pm_R_lo pm_M12 (pc' := 21) rfl rfl rfl ?_
    refine pm_R_get pm_M12 (pc' := 24) (v := .ref 28) rfl rfl rfl (Nat.le_of_ble_eq_true rfl) (Nat.le_of_ble_eq_true rfl) rfl rfl ?_
    refine pm_R_op pm_M12 (pc' := 25) (st' := [.int 0, .ref 28]) rfl rfl rfl ?_
    refine pm_R_cs pm_M12 (pc' := 28) (ra := [.int 0, .ref 28]) (rest := []) (ls' := [.ref 28, .int 0, pm_no, pm_no]) rfl rfl (Or.inl rfl) pm_M13 rfl rfl (Nat.le_of_ble_eq_true rfl) rfl rfl ?_
    refine pm_R_op pm_M13 (pc' := 1) (st' := [.int 0]) rfl rfl rfl ?_
    refine pm_R_lo pm_M13 (pc' := 2) (ls' := [.ref 28, .int 0, .int 0, pm_no]) (st' := []) rfl rfl rfl ?_
    refine pm_R_lo pm_M13 (pc' := 3) rfl rfl rfl ?_
    refine pm_R_alen pm_M13 (pc' := 4) (v := 10) rfl (hh 28 (Nat.le_of_ble_eq_true rfl)) (Nat.le_of_ble_eq_true rfl) (Nat.le_of_ble_eq_true rfl) (Nat.le_of_ble_eq_true rfl) rfl rfl ?_
    refine pm_R_lo pm_M13 (pc' := 5) (ls' := [.ref 28, .int 0, .int 0, .int 10]) (st' := []) rfl rfl rfl ?_
    refine pm_R_lo pm_M13 (pc' := 6) rfl rfl rfl ?_
    refine pm_R_lo pm_M13 (pc' := 7) rfl rfl rfl ?_
    refine pm_R_br pm_M13 (pc' := 10) (st' := []) rfl rfl ?_
    refine pm_R_lo pm_M13 (pc' := 11) rfl rfl rfl ?_
    refine pm_R_lo pm_M13 (pc' := 12) rfl rfl rfl ?_
    refine pm_R_lo pm_M13 (pc' := 13) rfl rfl rfl ?_
    refine pm_R_iast pm_M13 (pc' := 14) rfl (hh 28 (Nat.le_of_ble_eq_true rfl)) (Nat.le_of_ble_eq_true rfl) (Nat.le_of_ble_eq_true rfl) rfl rfl ?_
    refine pm_R_lo pm_M13 (pc' := 17) (ls' := [.ref 28, .int 0, .int 1, .int 10]) (st' := []) rfl rfl rfl ?_
    refine pm_R_br pm_M13 (pc' := 5) rfl rfl ?_
    refine pm_R_lo pm_M13 (pc' := 6) rfl rfl rfl ?_
    refine pm_R_lo pm_M13 (pc' := 7) rfl rfl rfl ?_
    refine pm_R_br pm_M13 (pc' := 10) (st' := []) rfl rfl ?_
    refine pm_R_lo pm_M13 (pc' := 11) rfl rfl rfl ?_
    refine pm_R_lo pm_M13 (pc' := 12) rfl rfl rfl ?_
    refine pm_R_lo pm_M13 (pc' := 13) rfl rfl rfl ?_
    refine pm_R_iast pm_M13 (pc' := 14) rfl rfl (Nat.le_of_ble_eq_true rfl) (Nat.le_of_ble_eq_true rfl) rfl rfl ?_
    refine pm_R_lo pm_M13 (pc' := 17) (ls' := [.ref 28, .int 0, .int 2, .int 10]) (st' := []) rfl rfl rfl ?_
    refine pm_R_br pm_M13 (pc' := 5) rfl rfl ?_
    refine pm_R_lo pm_M13 (pc' := 6) rfl rfl rfl ?_
    refine pm_R_lo pm_M13 (pc' := 7) rfl rfl rfl ?_
    refine pm_R_br pm_M13 (pc' := 10) (st' := []) rfl rfl ?_
    refine pm_R_lo pm_M13 (pc' := 11) rfl rfl rfl ?_
    refine pm_R_lo pm_M13 (pc' := 12) rfl rfl rfl ?_
    refine pm_R_lo pm_M13 (pc' := 13) rfl rfl rfl ?_
    refine pm_R_iast pm_M13 (pc' := 14) rfl rfl (Nat.le_of_ble_eq_true rfl) (Nat.le_of_ble_eq_true rfl) rfl rfl ?_
    refine pm_R_lo pm_M13 (pc' := 17) (ls' := [.ref 28, .int 0, .int 3, .int 10]) (st' := []) rfl rfl rfl ?_
    refine pm_R_br pm_M13 (pc' := 5) rfl rfl ?_
    refine pm_R_lo pm_M13 (pc' := 6) rfl rfl rfl ?_
    refine pm_R_lo pm_M13 (pc' := 7) rfl rfl rfl ?_
    refine pm_R_br pm_M13 (pc' := 10) (st' := []) rfl rfl ?_
    refine pm_R_lo pm_M13 (pc' := 11) rfl rfl rfl ?_
    refine pm_R_lo pm_M13 (pc' := 12) rfl rfl rfl ?_
    refine pm_R_lo pm_M13 (pc' := 13) rfl rfl rfl ?_
    refine pm_R_iast pm_M13 (pc' := 14) rfl rfl (Nat.le_of_ble_eq_true rfl) (Nat.le_of_ble_eq_true rfl) rfl rfl ?_
    refine pm_R_lo pm_M13 (pc' := 17) (ls' := [.ref 28, .int 0, .int 4, .int 10]) (st' := []) rfl rfl rfl ?_
    refine pm_R_br pm_M13 (pc' := 5) rfl rfl ?_
    refine pm_R_lo pm_M13 (pc' := 6) rfl rfl rfl ?_
    refine pm_R_lo pm_M13 (pc' := 7) rfl rfl rfl ?_
    refine pm_R_br pm_M13 (pc' := 10) (st' := []) rfl rfl ?_
    refine pm_R_lo pm_M13 (pc' := 11) rfl rfl rfl ?_
    refine pm_R_lo pm_M13 (pc' := 12) rfl rfl rfl ?_
    refine pm_R_lo pm_M13 (pc' := 13) rfl rfl rfl ?_
    refine pm_R_iast pm_M13 (pc' := 14) rfl rfl (Nat.le_of_ble_eq_true rfl) (Nat.le_of_ble_eq_true rfl) rfl rfl ?_
    refine pm_R_lo pm_M13 (pc' := 17) (ls' := [.ref 28, .int 0, .int 5, .int 10]) (st' := []) rfl rfl rfl ?_
    refine pm_R_br pm_M13 (pc' := 5) rfl rfl ?_
    refine pm_R_lo pm_M13 (pc' := 6) rfl rfl rfl ?_
    refine pm_R_lo pm_M13 (pc' := 7) rfl rfl rfl ?_
    refine pm_R_br pm_M13 (pc' := 10) (st' := []) rfl rfl ?_
    refine pm_R_lo pm_M13 (pc' := 11) rfl rfl rfl ?_
    refine pm_R_lo pm_M13 (pc' := 12) rfl rfl rfl ?_
    refine pm_R_lo pm_M13 (pc' := 13) rfl rfl rfl ?_
    refine pm_R_iast pm_M13 (pc' := 14) rfl rfl (Nat.le_of_ble_eq_true rfl) (Nat.le_of_ble_eq_true rfl) rfl rfl ?_
    refine pm_R_lo pm_M13 (pc' := 17) (ls' := [.ref 28, .int 0, .int 6, .int 10]) (st' := []) rfl rfl rfl ?_
    refine pm_R_br pm_M13 (pc' := 5) rfl rfl ?_
    refine pm_R_lo pm_M13 (pc' := 6) rfl rfl rfl ?_
    refine pm_R_lo pm_M13 (pc' := 7) rfl rfl rfl ?_
    refine pm_R_br pm_M13 (pc' := 10) (st' := []) rfl rfl ?_
    refine pm_R_lo pm_M13 (pc' := 11) rfl rfl rfl ?_
    refine pm_R_lo pm_M13 (pc' := 12) rfl rfl rfl ?_
    refine pm_R_lo pm_M13 (pc' := 13) rfl rfl rfl ?_
    refine pm_R_iast pm_M13 (pc' := 14) rfl rfl (Nat.le_of_ble_eq_true rfl) (Nat.le_of_ble_eq_true rfl) rfl rfl ?_
    refine pm_R_lo pm_M13 (pc' := 17) (ls' := [.ref 28, .int 0, .int 7, .int 10]) (st' := []) rfl rfl rfl ?_
    refine pm_R_br pm_M13 (pc' := 5) rfl rfl ?_
    refine pm_R_lo pm_M13 (pc' := 6) rfl rfl rfl ?_
    refine pm_R_lo pm_M13 (pc' := 7) rfl rfl rfl ?_
    refine pm_R_br pm_M13 (pc' := 10) (st' := []) rfl rfl ?_
    refine pm_R_lo pm_M13 (pc' := 11) rfl rfl rfl ?_
    refine pm_R_lo pm_M13 (pc' := 12) rfl rfl rfl ?_
    refine pm_R_lo pm_M13 (pc' := 13) rfl rfl rfl ?_
    refine pm_R_iast pm_M13 (pc' := 14) rfl rfl (Nat.le_of_ble_eq_true rfl) (Nat.le_of_ble_eq_true rfl) rfl rfl ?_
    refine pm_R_lo pm_M13 (pc' := 17) (ls' := [.ref 28, .int 0, .int 8, .int 10]) (st' := []) rfl rfl rfl ?_
    refine pm_R_br pm_M13 (pc' := 5) rfl rfl ?_
    refine pm_R_lo pm_M13 (pc' := 6) rfl rfl rfl ?_
    refine pm_R_lo pm_M13 (pc' := 7) rfl rfl rfl ?_
    refine pm_R_br pm_M13 (pc' := 10) (st' := []) rfl rfl ?_
    refine pm_R_lo pm_M13 (pc' := 11) rfl rfl rfl ?_
    refine pm_R_lo pm_M13 (pc' := 12) rfl rfl rfl ?_
    refine pm_R_lo pm_M13 (pc' := 13) rfl rfl rfl ?_
    refine pm_R_iast pm_M13 (pc' := 14) rfl rfl (Nat.le_of_ble_eq_true rfl) (Nat.le_of_ble_eq_true rfl) rfl rfl ?_
    refine pm_R_lo pm_M13 (pc' := 17) (ls' := [.ref 28, .int 0, .int 9, .int 10]) (st' := []) rfl rfl rfl ?_
    refine pm_R_br pm_M13 (pc' := 5) rfl rfl ?_
    refine pm_R_lo pm_M13 (pc' := 6) rfl rfl rfl ?_
    refine pm_R_lo pm_M13 (pc' := 7) rfl rfl rfl ?_
    refine pm_R_br pm_M13 (pc' := 10) (st' := []) rfl rfl ?_
    refine pm_R_lo pm_M13 (pc' := 11) rfl rfl rfl ?_
    refine pm_R_lo pm_M13 (pc' := 12) rfl rfl rfl ?_
    refine pm_R_lo pm_M13 (pc' := 13) rfl rfl rfl ?_
    refine pm_R_iast pm_M13 (pc' := 14) rfl rfl (Nat.le_of_ble_eq_true rfl) (Nat.le_of_ble_eq_true rfl) rfl rfl ?_
    refine pm_R_lo pm_M13 (pc' := 17) (ls' := [.ref 28, .int 0, .int 10, .int 10]) (st' := []) rfl rfl rfl ?_
    refine pm_R_br pm_M13 (pc' := 5) rfl rfl ?_
    refine pm_R_lo pm_M13 (pc' := 6) rfl rfl rfl ?_
    refine pm_R_lo pm_M13 (pc' := 7) rfl rfl rfl ?_
    refine pm_R_br pm_M13 (pc' := 20) (st' := []) rfl rfl ?_
    refine pm_R_ret pm_M13 (r := none) rfl rfl ?_
    show pm_R _ 12 28 [.ref 25] [] _ _
    refine pm_R_lo pm_M12 (pc' := 29) rfl rfl rfl ?_
    refine pm_R_op pm_M12 (pc' := 30) (st' := [.int 4, .ref 25]) rfl rfl rfl ?_
    refine pm_R_put pm_M12 (pc' := 33) (fs' := [.ref 30, .int 0, .int (-1), .ref 26, .int 0, .ref 27, .int 0, .ref 28, .int 4, .int (-1), .ref 29]) rfl rfl rfl rfl (Nat.le_of_ble_eq_true rfl) (Nat.le_of_ble_eq_true rfl) (Nat.le_of_ble_eq_true rfl) rfl (Or.inl rfl) rfl rfl ?_
    refine pm_R_lo pm_M12 (pc' := 34) rfl rfl rfl ?_
    refine pm_R_op pm_M12 (pc' := 35) (st' := [.int (-1), .ref 25]) rfl rfl rfl ?_
    refine pm_R_put pm_M12 (pc' := 38) (fs' := [.ref 30, .int 0, .int (-1), .ref 26, .int 0, .ref 27, .int 0, .ref 28, .int 4, .int (-1), .ref 29]) rfl rfl rfl rfl (Nat.le_of_ble_eq_true rfl) (Nat.le_of_ble_eq_true rfl) (Nat.le_of_ble_eq_true rfl) rfl (Or.inl rfl) rfl rfl ?_
    refine pm_R_ret pm_M12 (r := none) rfl rfl ?_
    show pm_R _ 11 4 [.ref 25, .int 0, .int 3, pm_no] [] _ _
    refine pm_R_lo pm_M11 (pc' := 5) rfl rfl rfl ?_
    refine pm_R_get pm_M11 (pc' := 8) (v := .ref 30) rfl rfl rfl (Nat.le_of_ble_eq_true rfl) (Nat.le_of_ble_eq_true rfl) rfl rfl ?_
    refine pm_R_lo pm_M11 (pc' := 9) rfl rfl rfl ?_
    refine pm_R_cv pm_M11 (pc' := 12) (a := 30) (ra := [.int 0]) (rest := []) (ls' := [.ref 30, .int 0]) rfl rfl (Or.inl rfl) pm_M14 (hh 30 (Nat.le_of_ble_eq_true rfl)) rfl (Nat.le_of_ble_eq_true rfl) (Nat.le_of_ble_eq_true rfl) rfl rfl (Nat.le_of_ble_eq_true rfl) rfl rfl ?_
    refine pm_R_lo pm_M14 (pc' := 1) rfl rfl rfl ?_
    refine pm_R_lo pm_M14 (pc' := 2) rfl rfl rfl ?_
    refine pm_R_lo pm_M14 (pc' := 3) rfl rfl rfl ?_
    refine pm_R_get pm_M14 (pc' := 6) (v := .ref 18) rfl rfl (hh 30 (Nat.le_of_ble_eq_true rfl)) (Nat.le_of_ble_eq_true rfl) (Nat.le_of_ble_eq_true rfl) rfl rfl ?_
    refine pm_R_alen pm_M14 (pc' := 7) (v := 600) rfl (hh 18 (Nat.le_of_ble_eq_true rfl)) (Nat.le_of_ble_eq_true rfl) (Nat.le_of_ble_eq_true rfl) (Nat.le_of_ble_eq_true rfl) rfl rfl ?_
    refine pm_R_nat pm_M14 (pc' := 10) (st' := [.int 0, .ref 30]) rfl rfl rfl rfl rfl ?_
    refine pm_R_put pm_M14 (pc' := 13) (fs' := [.ref 18, .int 0, .int 0, .int 0, .int 0, .int 0]) rfl rfl rfl (hh 30 (Nat.le_of_ble_eq_true rfl)) (Nat.le_of_ble_eq_true rfl) (Nat.le_of_ble_eq_true rfl) (Nat.le_of_ble_eq_true rfl) rfl (Or.inl rfl) rfl rfl ?_
    refine pm_R_lo pm_M14 (pc' := 14) rfl rfl rfl ?_
    refine pm_R_op pm_M14 (pc' := 15) (st' := [.int 0, .ref 30]) rfl rfl rfl ?_
    refine pm_R_put pm_M14 (pc' := 18) (fs' := [.ref 18, .int 0, .int 0, .int 0, .int 0, .int 0]) rfl rfl rfl rfl (Nat.le_of_ble_eq_true rfl) (Nat.le_of_ble_eq_true rfl) (Nat.le_of_ble_eq_true rfl) rfl (Or.inl rfl) rfl rfl ?_
    refine pm_R_lo pm_M14 (pc' := 19) rfl rfl rfl ?_
    refine pm_R_op pm_M14 (pc' := 20) (st' := [.int 0, .ref 30]) rfl rfl rfl ?_
    refine pm_R_put pm_M14 (pc' := 23) (fs' := [.ref 18, .int 0, .int 0, .int 0, .int 0, .int 0]) rfl rfl rfl rfl (Nat.le_of_ble_eq_true rfl) (Nat.le_of_ble_eq_true rfl) (Nat.le_of_ble_eq_true rfl) rfl (Or.inl rfl) rfl rfl ?_
    refine pm_R_lo pm_M14 (pc' := 24) rfl rfl rfl ?_
    refine pm_R_op pm_M14 (pc' := 25) (st' := [.int 0, .ref 30]) rfl rfl rfl ?_
    refine pm_R_put pm_M14 (pc' := 28) (fs' := [.ref 18, .int 0, .int 0, .int 0, .int 0, .int 0]) rfl rfl rfl rfl (Nat.le_of_ble_eq_true rfl) (Nat.le_of_ble_eq_true rfl) (Nat.le_of_ble_eq_true rfl) rfl (Or.inl rfl) rfl rfl ?_
    refine pm_R_ret pm_M14 (r := none) rfl rfl ?_
    show pm_R _ 11 12 [.ref 25, .int 0, .int 3, pm_no] [] _ _
    refine pm_R_lo pm_M11 (pc' := 13) rfl rfl rfl ?_
    refine pm_R_op pm_M11 (pc' := 14) (st' := [.int 1, .int 3]) rfl rfl rfl ?_
    refine pm_R_br pm_M11 (pc' := 24) (st' := []) rfl rfl ?_
    refine pm_R_lo pm_M11 (pc' := 25) rfl rfl rfl ?_
    refine pm_R_lo pm_M11 (pc' := 26) rfl rfl rfl ?_
    refine pm_R_cv pm_M11 (pc' := 29) (a := 25) (ra := [.int 3]) (rest := []) (ls' := [.ref 25, .int 3, pm_no]) rfl rfl (Or.inl rfl) pm_M22 rfl rfl (Nat.le_of_ble_eq_true rfl) (Nat.le_of_ble_eq_true rfl) rfl rfl (Nat.le_of_ble_eq_true rfl) rfl rfl ?_
    refine pm_R_lo pm_M22 (pc' := 1) rfl rfl rfl ?_
    refine pm_R_get pm_M22 (pc' := 4) (v := .ref 30) rfl rfl rfl (Nat.le_of_ble_eq_true rfl) (Nat.le_of_ble_eq_true rfl) rfl rfl ?_
    refine pm_R_cv pm_M22 (pc' := 7) (a := 30) (ra := []) (rest := []) (ls' := [.ref 30]) rfl rfl (Or.inl rfl) pm_M16 rfl rfl (Nat.le_of_ble_eq_true rfl) (Nat.le_of_ble_eq_true rfl) rfl rfl (Nat.le_of_ble_eq_true rfl) rfl rfl ?_
    refine pm_R_lo pm_M16 (pc' := 1) rfl rfl rfl ?_
    refine pm_R_lo pm_M16 (pc' := 2) rfl rfl rfl ?_
    refine pm_R_get pm_M16 (pc' := 5) (v := .int 0) rfl rfl rfl (Nat.le_of_ble_eq_true rfl) (Nat.le_of_ble_eq_true rfl) rfl rfl ?_
    refine pm_R_put pm_M16 (pc' := 8) (fs' := [.ref 18, .int 0, .int 0, .int 0, .int 0, .int 0]) rfl rfl rfl rfl (Nat.le_of_ble_eq_true rfl) (Nat.le_of_ble_eq_true rfl) (Nat.le_of_ble_eq_true rfl) rfl (Or.inl rfl) rfl rfl ?_
    refine pm_R_lo pm_M16 (pc' := 9) rfl rfl rfl ?_
    refine pm_R_get pm_M16 (pc' := 12) (v := .int 0) rfl rfl rfl (Nat.le_of_ble_eq_true rfl) (Nat.le_of_ble_eq_true rfl) rfl rfl ?_
    refine pm_R_lo pm_M16 (pc' := 13) rfl rfl rfl ?_
    refine pm_R_get pm_M16 (pc' := 16) (v := .int 0) rfl rfl rfl (Nat.le_of_ble_eq_true rfl) (Nat.le_of_ble_eq_true rfl) rfl rfl ?_
    refine pm_R_br pm_M16 (pc' := 47) (st' := []) rfl rfl ?_
    refine pm_R_lo pm_M16 (pc' := 48) rfl rfl rfl ?_
    refine pm_R_lo pm_M16 (pc' := 49) rfl rfl rfl ?_
    refine pm_R_get pm_M16 (pc' := 52) (v := .int 0) rfl rfl rfl (Nat.le_of_ble_eq_true rfl) (Nat.le_of_ble_eq_true rfl) rfl rfl ?_
    refine pm_R_put pm_M16 (pc' := 55) (fs' := [.ref 18, .int 0, .int 0, .int 0, .int 0, .int 0]) rfl rfl rfl rfl (Nat.le_of_ble_eq_true rfl) (Nat.le_of_ble_eq_true rfl) (Nat.le_of_ble_eq_true rfl) rfl (Or.inl rfl) rfl rfl ?_
    refine pm_R_lo pm_M16 (pc' := 56) rfl rfl rfl ?_
    refine pm_R_get pm_M16 (pc' := 59) (v := .int 0) rfl rfl rfl (Nat.le_of_ble_eq_true rfl) (Nat.le_of_ble_eq_true rfl) rfl rfl ?_
    refine pm_R_lo pm_M16 (pc' := 60) rfl rfl rfl ?_
    refine pm_R_get pm_M16 (pc' := 63) (v := .int 0) rfl rfl rfl (Nat.le_of_ble_eq_true rfl) (Nat.le_of_ble_eq_true rfl) rfl rfl ?_
    refine pm_R_br pm_M16 (pc' := 66) (st' := []) rfl rfl ?_
    refine pm_R_lo pm_M16 (pc' := 67) rfl rfl rfl ?_
    refine pm_R_op pm_M16 (pc' := 68) (st' := [.int 0, .ref 30]) rfl rfl rfl ?_
    refine pm_R_put pm_M16 (pc' := 71) (fs' := [.ref 18, .int 0, .int 0, .int 0, .int 0, .int 0]) rfl rfl rfl rfl (Nat.le_of_ble_eq_true rfl) (Nat.le_of_ble_eq_true rfl) (Nat.le_of_ble_eq_true rfl) rfl (Or.inl rfl) rfl rfl ?_
    refine pm_R_br pm_M16 (pc' := 191) rfl rfl ?_
    refine pm_R_ret pm_M16 (r := none) (pm_q16_1 (Nat.le_of_ble_eq_true rfl)) rfl ?_
    show pm_R _ 22 7 [.ref 25, .int 3, pm_no] [] _ _
    refine pm_R_op pm_M22 (pc' := 8) (st' := [.int 0]) rfl rfl rfl ?_
    refine pm_R_lo pm_M22 (pc' := 9) (ls' := [.ref 25, .int 3, .int 0]) (st' := []) rfl rfl rfl ?_
    refine pm_R_lo pm_M22 (pc' := 10) rfl rfl rfl ?_
    refine pm_R_op pm_M22 (pc' := 13) (st' := [.int 600, .int 0]) rfl rfl rfl ?_
    refine pm_R_br pm_M22 (pc' := 16) (st' := []) rfl rfl ?_
    refine pm_R_lo pm_M22 (pc' := 17) rfl rfl rfl ?_
    refine pm_R_get pm_M22 (pc' := 20) (v := .ref 30) rfl rfl rfl (Nat.le_of_ble_eq_true rfl) (Nat.le_of_ble_eq_true rfl) rfl rfl ?_
    refine pm_R_get pm_M22 (pc' := 23) (v := .int 0) rfl rfl rfl (Nat.le_of_ble_eq_true rfl) (Nat.le_of_ble_eq_true rfl) rfl rfl ?_
    refine pm_R_br pm_M22 (pc' := 53) (st' := []) rfl rfl ?_
    refine pm_R_op pm_M22 (pc' := 54) (st' := [.int 1]) rfl rfl rfl ?_
    refine pm_R_ret pm_M22 (r := some (.int 1)) rfl rfl ?_
    show pm_R _ 11 29 [.ref 25, .int 0, .int 3, pm_no] [.int 1] _ _
    refine pm_R_lo pm_M11 (pc' := 30) (ls' := [.ref 25, .int 0, .int 3, .int 1]) (st' := []) rfl rfl rfl ?_
    refine pm_R_lo pm_M11 (pc' := 31) rfl rfl rfl ?_
    refine pm_R_br pm_M11 (pc' := 53) (st' := []) rfl rfl ?_
    refine pm_R_lo pm_M11 (pc' := 54) rfl rfl rfl ?_
    refine pm_R_op pm_M11 (pc' := 55) (st' := [.int 1, .int 3]) rfl rfl rfl ?_
    refine pm_R_br pm_M11 (pc' := 65) (st' := []) rfl rfl ?_
    refine pm_R_lo pm_M11 (pc' := 66) rfl rfl rfl ?_
    refine pm_R_op pm_M11 (pc' := 67) (st' := [.int 2, .int 3]) rfl rfl rfl ?_
    refine pm_R_br pm_M11 (pc' := 87) (st' := []) rfl rfl ?_
    refine pm_R_ret pm_M11 (r := none) rfl rfl ?_
    show pm_R _ 10 120 [.ref 16, .int 3, .int (-1), .int 0, .int 0, .int 1, .int 0] [] _ _
    refine pm_R_lo pm_M10 (pc' := 121) (pm_q10_1 (Nat.le_of_ble_eq_true rfl)) rfl rfl ?_
    refine pm_R_get pm_M10 (pc' := 124) (v := .ref 17) (pm_q10_1 (Nat.le_of_ble_eq_true rfl)) rfl (hh 16 (Nat.le_of_ble_eq_true rfl)) (Nat.le_of_ble_eq_true rfl) (Nat.le_of_ble_eq_true rfl) rfl rfl ?_
    refine pm_R_lo pm_M10 (pc' := 125) (pm_q10_1 (Nat.le_of_ble_eq_true rfl)) rfl rfl ?_
    refine pm_R_get pm_M10 (pc' := 128) (v := .ref 25) (pm_q10_1 (Nat.le_of_ble_eq_true rfl)) rfl (hh 16 (Nat.le_of_ble_eq_true rfl)) (Nat.le_of_ble_eq_true rfl) (Nat.le_of_ble_eq_true rfl) rfl rfl ?_
    refine pm_R_get pm_M10 (pc' := 131) (v := .int 0) (pm_q10_1 (Nat.le_of_ble_eq_true rfl)) rfl rfl (Nat.le_of_ble_eq_true rfl) (Nat.le_of_ble_eq_true rfl) rfl rfl ?_
    refine pm_R_put pm_M10 (pc' := 134) (fs' := [.ref 18, .int 0, .int 0, .int (-1), .ref 19, .ref 20, .ref 21, .ref 22, .ref 23]) (pm_q10_1 (Nat.le_of_ble_eq_true rfl)) rfl rfl rfl (Nat.le_of_ble_eq_true rfl) (Nat.le_of_ble_eq_true rfl) (Nat.le_of_ble_eq_true rfl) rfl (Or.inl rfl) rfl rfl ?_
    refine pm_R_lo pm_M10 (pc' := 135) (pm_q10_1 (Nat.le_of_ble_eq_true rfl)) rfl rfl ?_
    refine pm_R_get pm_M10 (pc' := 138) (v := .ref 17) (pm_q10_1 (Nat.le_of_ble_eq_true rfl)) rfl (hh 16 (Nat.le_of_ble_eq_true rfl)) (Nat.le_of_ble_eq_true rfl) (Nat.le_of_ble_eq_true rfl) rfl rfl ?_
    refine pm_R_lo pm_M10 (pc' := 139) (pm_q10_1 (Nat.le_of_ble_eq_true rfl)) rfl rfl ?_
    refine pm_R_get pm_M10 (pc' := 142) (v := .ref 25) (pm_q10_1 (Nat.le_of_ble_eq_true rfl)) rfl (hh 16 (Nat.le_of_ble_eq_true rfl)) (Nat.le_of_ble_eq_true rfl) (Nat.le_of_ble_eq_true rfl) rfl rfl ?_
    refine pm_R_get pm_M10 (pc' := 145) (v := .int (-1)) (pm_q10_1 (Nat.le_of_ble_eq_true rfl)) rfl rfl (Nat.le_of_ble_eq_true rfl) (Nat.le_of_ble_eq_true rfl) rfl rfl ?_
    refine pm_R_put pm_M10 (pc' := 148) (fs' := [.ref 18, .int 0, .int 0, .int (-1), .ref 19, .ref 20, .ref 21, .ref 22, .ref 23]) (pm_q10_1 (Nat.le_of_ble_eq_true rfl)) rfl rfl rfl (Nat.le_of_ble_eq_true rfl) (Nat.le_of_ble_eq_true rfl) (Nat.le_of_ble_eq_true rfl) rfl (Or.inl rfl) rfl rfl ?_
    refine pm_R_lo pm_M10 (pc' := 149) (pm_q10_1 (Nat.le_of_ble_eq_true rfl)) rfl rfl ?_
    refine pm_R_get pm_M10 (pc' := 152) (v := .ref 17) (pm_q10_1 (Nat.le_of_ble_eq_true rfl)) rfl (hh 16 (Nat.le_of_ble_eq_true rfl)) (Nat.le_of_ble_eq_true rfl) (Nat.le_of_ble_eq_true rfl) rfl rfl ?_
    refine pm_R_get pm_M10 (pc' := 155) (v := .int 0) (pm_q10_1 (Nat.le_of_ble_eq_true rfl)) rfl rfl (Nat.le_of_ble_eq_true rfl) (Nat.le_of_ble_eq_true rfl) rfl rfl ?_
    refine pm_R_br pm_M10 (pc' := 160) (st' := []) (pm_q10_1 (Nat.le_of_ble_eq_true rfl)) rfl ?_
    refine pm_R_lo pm_M10 (pc' := 161) (pm_q10_1 (Nat.le_of_ble_eq_true rfl)) rfl rfl ?_
    refine pm_R_lo pm_M10 (pc' := 162) (pm_q10_1 (Nat.le_of_ble_eq_true rfl)) rfl rfl ?_
    refine pm_R_lo pm_M10 (pc' := 164) (pm_q10_1 (Nat.le_of_ble_eq_true rfl)) rfl rfl ?_
    refine pm_R_cv pm_M10 (pc' := 167) (a := 16) (ra := [.int 0, .int 3]) (rest := []) (ls' := [.ref 16, .int 3, .int 0]) (pm_q10_1 (Nat.le_of_ble_eq_true rfl)) rfl (Or.inl rfl) pm_M43 (hh 16 (Nat.le_of_ble_eq_true rfl)) rfl (Nat.le_of_ble_eq_true rfl) (Nat.le_of_ble_eq_true rfl) rfl rfl (Nat.le_of_ble_eq_true rfl) rfl rfl ?_
    refine pm_R_lo pm_M43 (pc' := 1) rfl rfl rfl ?_
    refine pm_R_br pm_M43 (pc' := 97) (st' := []) rfl rfl ?_
    refine pm_R_lo pm_M43 (pc' := 98) rfl rfl rfl ?_
    refine pm_R_get pm_M43 (pc' := 101) (v := .ref 17) rfl rfl (hh 16 (Nat.le_of_ble_eq_true rfl)) (Nat.le_of_ble_eq_true rfl) (Nat.le_of_ble_eq_true rfl) rfl rfl ?_
    refine pm_R_get pm_M43 (pc' := 104) (v := .ref 22) rfl rfl rfl (Nat.le_of_ble_eq_true rfl) (Nat.le_of_ble_eq_true rfl) rfl rfl ?_
    refine pm_R_lo pm_M43 (pc' := 105) rfl rfl rfl ?_
    refine pm_R_new pm_M43 (pc' := 108) (fs := [.int 0, .null]) rfl rfl rfl rfl rfl ?_
    show pm_R _ 43 108 [.ref 16, .int 3, .int 0] [.ref 72, .int 0, .ref 22] _ _
    refine pm_R_op pm_M43 (pc' := 109) (st' := [.ref 72, .ref 72, .int 0, .ref 22]) rfl rfl rfl ?_
    refine pm_R_lo pm_M43 (pc' := 110) rfl rfl rfl ?_
    refine pm_R_get pm_M43 (pc' := 113) (v := .ref 25) rfl rfl (hh 16 (Nat.le_of_ble_eq_true rfl)) (Nat.le_of_ble_eq_true rfl) (Nat.le_of_ble_eq_true rfl) rfl rfl ?_
    refine pm_R_ci pm_M43 (pc' := 116) (a := 72) (ra := [.ref 25]) (rest := [.ref 72, .int 0, .ref 22]) (ls' := [.ref 72, .ref 25]) rfl rfl (Or.inl rfl) pm_M54 rfl rfl (Nat.le_of_ble_eq_true rfl) rfl rfl ?_
    refine pm_R_lo pm_M54 (pc' := 1) rfl rfl rfl ?_
    refine pm_R_obj pm_M54 (pc' := 4) rfl rfl rfl (Nat.le_of_ble_eq_true rfl) rfl ?_
    refine pm_R_lo pm_M54 (pc' := 5) rfl rfl rfl ?_
    refine pm_R_lo pm_M54 (pc' := 6) rfl rfl rfl ?_
    refine pm_R_get pm_M54 (pc' := 9) (v := .int 0) rfl rfl rfl (Nat.le_of_ble_eq_true rfl) (Nat.le_of_ble_eq_true rfl) rfl rfl ?_
    refine pm_R_put pm_M54 (pc' := 12) (fs' := [.int 0, .null]) rfl rfl rfl rfl (Nat.le_of_ble_eq_true rfl) (Nat.le_of_ble_eq_true rfl) (Nat.le_of_ble_eq_true rfl) rfl (Or.inr ⟨pm_N54_ini, rfl, rfl⟩) rfl rfl ?_
    refine pm_R_lo pm_M54 (pc' := 13) rfl rfl rfl ?_
    refine pm_R_lo pm_M54 (pc' := 14) rfl rfl rfl ?_
    refine pm_R_get pm_M54 (pc' := 17) (v := .ref 26) rfl rfl rfl (Nat.le_of_ble_eq_true rfl) (Nat.le_of_ble_eq_true rfl) rfl rfl ?_
    refine pm_R_lo pm_M54 (pc' := 18) rfl rfl rfl ?_
    refine pm_R_get pm_M54 (pc' := 21) (v := .int 0) rfl rfl rfl (Nat.le_of_ble_eq_true rfl) (Nat.le_of_ble_eq_true rfl) rfl rfl ?_
    refine pm_R_op pm_M54 (pc' := 22) (st' := [.int 4, .int 0, .ref 26, .ref 72]) rfl rfl rfl ?_
    refine pm_R_op pm_M54 (pc' := 23) (st' := [.int 0, .ref 26, .ref 72]) rfl rfl rfl ?_
    refine pm_R_cs pm_M54 (pc' := 26) (ra := [.int 0, .ref 26]) (rest := [.ref 72]) (ls' := [.ref 26, .int 0, pm_no]) rfl rfl (Or.inl rfl) pm_M45 rfl rfl (Nat.le_of_ble_eq_true rfl) rfl rfl ?_
    refine pm_R_lo pm_M45 (pc' := 1) rfl rfl rfl ?_
    refine pm_R_lo pm_M45 (pc' := 2) rfl rfl rfl ?_
    refine pm_R_alen pm_M45 (pc' := 3) (v := 200) rfl (hh 26 (Nat.le_of_ble_eq_true rfl)) (Nat.le_of_ble_eq_true rfl) (Nat.le_of_ble_eq_true rfl) (Nat.le_of_ble_eq_true rfl) rfl rfl ?_
    refine pm_R_br pm_M45 (pc' := 14) (st' := []) rfl rfl ?_
    refine pm_R_lo pm_M45 (pc' := 15) rfl rfl rfl ?_
    refine pm_R_newa pm_M45 (pc' := 17) (N := 0) rfl rfl (by decide) rfl (Nat.le_of_ble_eq_true rfl) rfl ?_
    show pm_R _ 45 17 [.ref 26, .int 0, pm_no] [.ref 73] _ _
    refine pm_R_lo pm_M45 (pc' := 18) (ls' := [.ref 26, .int 0, .ref 73]) (st' := []) rfl rfl rfl ?_
    refine pm_R_lo pm_M45 (pc' := 19) rfl rfl rfl ?_
    refine pm_R_op pm_M45 (pc' := 20) (st' := [.int 0, .ref 26]) rfl rfl rfl ?_
    refine pm_R_lo pm_M45 (pc' := 21) rfl rfl rfl ?_
    refine pm_R_op pm_M45 (pc' := 22) (st' := [.int 0, .ref 73, .int 0, .ref 26]) rfl rfl rfl ?_
    refine pm_R_lo pm_M45 (pc' := 23) rfl rfl rfl ?_
    refine pm_R_alen pm_M45 (pc' := 24) (v := 200) rfl (hh 26 (Nat.le_of_ble_eq_true rfl)) (Nat.le_of_ble_eq_true rfl) (Nat.le_of_ble_eq_true rfl) (Nat.le_of_ble_eq_true rfl) rfl rfl ?_
    refine pm_R_lo pm_M45 (pc' := 25) rfl rfl rfl ?_
    refine pm_R_nat pm_M45 (pc' := 28) (st' := [.int 0, .int 0, .ref 73, .int 0, .ref 26]) rfl rfl rfl rfl rfl ?_
    refine pm_R_acp pm_M45 (pc' := 31) (S := 0) (D := 0) (N := 0) rfl rfl rfl (hh 26 (Nat.le_of_ble_eq_true rfl)) rfl (Or.inl rfl) (Nat.le_of_ble_eq_true rfl) (Nat.le_of_ble_eq_true rfl) (Nat.le_of_ble_eq_true rfl) (Nat.le_of_ble_eq_true rfl) rfl rfl rfl (by decide) (by decide) (by decide) (Nat.le_of_ble_eq_true rfl) (Nat.le_of_ble_eq_true rfl) (Nat.le_of_ble_eq_true rfl) rfl ?_
    refine pm_R_lo pm_M45 (pc' := 32) rfl rfl rfl ?_
    refine pm_R_ret pm_M45 (r := some (.ref 73)) rfl rfl ?_
    show pm_R _ 54 26 [.ref 72, .ref 25] [.ref 73, .ref 72] _ _
    refine pm_R_put pm_M54 (pc' := 29) (fs' := [.int 0, .ref 73]) rfl rfl rfl rfl (Nat.le_of_ble_eq_true rfl) (Nat.le_of_ble_eq_true rfl) (Nat.le_of_ble_eq_true rfl) rfl (Or.inr ⟨pm_N54_ini, rfl, rfl⟩) rfl rfl ?_
    refine pm_R_ret pm_M54 (r := none) rfl rfl ?_
    show pm_R _ 43 116 [.ref 16, .int 3, .int 0] [.ref 72, .int 0, .ref 22] _ _
    refine pm_R_aast pm_M43 (pc' := 117) rfl (hh 22 (Nat.le_of_ble_eq_true rfl)) rfl rfl (Nat.le_of_ble_eq_true rfl) (Nat.le_of_ble_eq_true rfl) (Nat.le_of_ble_eq_true rfl) (Nat.le_of_ble_eq_true rfl) rfl rfl ?_
    refine pm_R_ret pm_M43 (r := none) rfl rfl ?_
    show pm_R _ 10 167 [.ref 16, .int 3, .int (-1), .int 0, .int 0, .int 1, .int 0] [] _ _
    refine pm_R_lo pm_M10 (pc' := 169) (pm_q10_1 (Nat.le_of_ble_eq_true rfl)) rfl rfl ?_
    refine pm_R_br pm_M10 (pc' := 172) (st' := []) (pm_q10_1 (Nat.le_of_ble_eq_true rfl)) rfl ?_
    refine pm_R_lo pm_M10 (pc' := 173) (pm_q10_1 (Nat.le_of_ble_eq_true rfl)) rfl rfl ?_
    refine pm_R_get pm_M10 (pc' := 176) (v := .ref 17) (pm_q10_1 (Nat.le_of_ble_eq_true rfl)) rfl (hh 16 (Nat.le_of_ble_eq_true rfl)) (Nat.le_of_ble_eq_true rfl) (Nat.le_of_ble_eq_true rfl) rfl rfl ?_
    refine pm_R_get pm_M10 (pc' := 179) (v := .ref 23) (pm_q10_1 (Nat.le_of_ble_eq_true rfl)) rfl rfl (Nat.le_of_ble_eq_true rfl) (Nat.le_of_ble_eq_true rfl) rfl rfl ?_
    refine pm_R_lo pm_M10 (pc' := 180) (pm_q10_1 (Nat.le_of_ble_eq_true rfl)) rfl rfl ?_
    refine pm_R_op pm_M10 (pc' := 181) (st' := [.int 3, .ref 23, .int 3, .ref 23]) (pm_q10_1 (Nat.le_of_ble_eq_true rfl)) rfl rfl ?_
    refine pm_R_iald pm_M10 (pc' := 182) (v := 0) (pm_q10_1 (Nat.le_of_ble_eq_true rfl)) (hh 23 (Nat.le_of_ble_eq_true rfl)) (Nat.le_of_ble_eq_true rfl) rfl rfl rfl ?_
    refine pm_R_op pm_M10 (pc' := 183) (st' := [.int 1, .int 0, .int 3, .ref 23]) (pm_q10_1 (Nat.le_of_ble_eq_true rfl)) rfl rfl ?_
    refine pm_R_op pm_M10 (pc' := 184) (st' := [.int 1, .int 3, .ref 23]) (pm_q10_1 (Nat.le_of_ble_eq_true rfl)) rfl rfl ?_
    refine pm_R_iast pm_M10 (pc' := 185) (pm_q10_1 (Nat.le_of_ble_eq_true rfl)) (hh 23 (Nat.le_of_ble_eq_true rfl)) (Nat.le_of_ble_eq_true rfl) (Nat.le_of_ble_eq_true rfl) rfl rfl ?_
    refine pm_R_lo pm_M10 (pc' := 187) (pm_q10_1 (Nat.le_of_ble_eq_true rfl)) rfl rfl ?_
    refine pm_R_ret pm_M10 (r := some (.int 0)) (pm_q10_1 (Nat.le_of_ble_eq_true rfl)) rfl ?_
    show pm_R _ 0 320 [.ref 0, .ref 16, .ref 41, .int 0] [.int 0] _ _
    refine pm_R_lo pm_M0 (pc' := 321) (pm_q0_1 (Nat.le_of_ble_eq_true rfl)) rfl rfl ?_
    refine pm_R_lo pm_M0 (pc' := 322) (pm_q0_1 (Nat.le_of_ble_eq_true rfl)) rfl rfl ?_
    refine pm_R_lo pm_M0 (pc' := 323) (pm_q0_1 (Nat.le_of_ble_eq_true rfl)) rfl rfl ?_
    refine pm_R_op pm_M0 (pc' := 324) (st' := [.int 1, .int 0, .ref 0, .ref 41, .int 0]) (pm_q0_1 (Nat.le_of_ble_eq_true rfl)) rfl rfl ?_
    refine pm_R_op pm_M0 (pc' := 325) (st' := [.int 1, .ref 0, .ref 41, .int 0]) (pm_q0_1 (Nat.le_of_ble_eq_true rfl)) rfl rfl ?_
    refine pm_R_iald pm_M0 (pc' := 326) (v := 3) (pm_q0_1 (Nat.le_of_ble_eq_true rfl)) (hh 0 (Nat.le_of_ble_eq_true rfl)) (Nat.le_of_ble_eq_true rfl) rfl hx1 rfl ?_
    refine pm_R_lo pm_M0 (pc' := 327) (pm_q0_1 (Nat.le_of_ble_eq_true rfl)) rfl rfl ?_
    refine pm_R_lo pm_M0 (pc' := 328) (pm_q0_1 (Nat.le_of_ble_eq_true rfl)) rfl rfl ?_
    refine pm_R_op pm_M0 (pc' := 329) (st' := [.int 2, .int 0, .ref 0, .int 3, .ref 41, .int 0]) (pm_q0_1 (Nat.le_of_ble_eq_true rfl)) rfl rfl ?_
    refine pm_R_op pm_M0 (pc' := 330) (st' := [.int 2, .ref 0, .int 3, .ref 41, .int 0]) (pm_q0_1 (Nat.le_of_ble_eq_true rfl)) rfl rfl ?_
    refine pm_R_iald pm_M0 (pc' := 331) (v := (-1)) (pm_q0_1 (Nat.le_of_ble_eq_true rfl)) (hh 0 (Nat.le_of_ble_eq_true rfl)) (Nat.le_of_ble_eq_true rfl) rfl hx2 rfl ?_
    refine pm_R_cv pm_M0 (pc' := 334) (a := 41) (ra := [.int (-1), .int 3]) (rest := [.int 0]) (ls' := [.ref 41, .int 3, .int (-1), pm_no]) (pm_q0_1 (Nat.le_of_ble_eq_true rfl)) rfl (Or.inl rfl) pm_M175 (hh 41 (Nat.le_of_ble_eq_true rfl)) rfl (Nat.le_of_ble_eq_true rfl) (Nat.le_of_ble_eq_true rfl) rfl rfl (Nat.le_of_ble_eq_true rfl) rfl rfl ?_
    refine pm_R_lo pm_M175 (pc' := 1) rfl rfl rfl ?_
    refine pm_R_op pm_M175 (pc' := 2) (st' := [.int 0, .ref 41]) rfl rfl rfl ?_
    refine pm_R_put pm_M175 (pc' := 5) (fs' := [.int 0, .ref 42, .ref 43, .ref 44, .ref 45, .ref 46, .ref 47, .ref 48, .ref 49, .ref 50, .int 0, .int 0, .int 0, .int 0, .int 0, .long 0, .int 0, .int 0, .int 0, .ref 51, .ref 52, .int 0, .int 0, .int 0, .int 0, .ref 53, .int 0, .int 0, .ref 54, .ref 55, .ref 56, .int 0, .ref 57, .ref 58, .ref 59, .ref 60, .ref 61, .ref 62, .ref 63, .ref 64, .ref 65, .ref 66, .int 0, .int 0, .int 0, .ref 67, .ref 68, .int 0, .ref 69, .int 0, .int 0, .ref 70, .ref 71]) rfl rfl rfl (hh 41 (Nat.le_of_ble_eq_true rfl)) (Nat.le_of_ble_eq_true rfl) (Nat.le_of_ble_eq_true rfl) (Nat.le_of_ble_eq_true rfl) rfl (Or.inl rfl) rfl rfl ?_
    refine pm_R_lo pm_M175 (pc' := 6) rfl rfl rfl ?_
    refine pm_R_lo pm_M175 (pc' := 7) rfl rfl rfl ?_
    refine pm_R_get pm_M175 (pc' := 10) (v := .ref 43) rfl rfl rfl (Nat.le_of_ble_eq_true rfl) (Nat.le_of_ble_eq_true rfl) rfl rfl ?_
    refine pm_R_op pm_M175 (pc' := 11) (st' := [.int 0, .ref 43, .ref 41]) rfl rfl rfl ?_
    refine pm_R_iald pm_M175 (pc' := 12) (v := 0) rfl (hh 43 (Nat.le_of_ble_eq_true rfl)) (Nat.le_of_ble_eq_true rfl) rfl rfl rfl ?_
    refine pm_R_put pm_M175 (pc' := 15) (fs' := [.int 0, .ref 42, .ref 43, .ref 44, .ref 45, .ref 46, .ref 47, .ref 48, .ref 49, .ref 50, .int 0, .int 0, .int 0, .int 0, .int 0, .long 0, .int 0, .int 0, .int 0, .ref 51, .ref 52, .int 0, .int 0, .int 0, .int 0, .ref 53, .int 0, .int 0, .ref 54, .ref 55, .ref 56, .int 0, .ref 57, .ref 58, .ref 59, .ref 60, .ref 61, .ref 62, .ref 63, .ref 64, .ref 65, .ref 66, .int 0, .int 0, .int 0, .ref 67, .ref 68, .int 0, .ref 69, .int 0, .int 0, .ref 70, .ref 71]) rfl rfl rfl rfl (Nat.le_of_ble_eq_true rfl) (Nat.le_of_ble_eq_true rfl) (Nat.le_of_ble_eq_true rfl) rfl (Or.inl rfl) rfl rfl ?_
    refine pm_R_lo pm_M175 (pc' := 16) rfl rfl rfl ?_
    refine pm_R_get pm_M175 (pc' := 19) (v := .ref 43) rfl rfl rfl (Nat.le_of_ble_eq_true rfl) (Nat.le_of_ble_eq_true rfl) rfl rfl ?_
    refine pm_R_op pm_M175 (pc' := 20) (st' := [.int 0, .ref 43]) rfl rfl rfl ?_
    refine pm_R_op pm_M175 (pc' := 21) (st' := [.int 0, .int 0, .ref 43]) rfl rfl rfl ?_
    refine pm_R_iast pm_M175 (pc' := 22) rfl (hh 43 (Nat.le_of_ble_eq_true rfl)) (Nat.le_of_ble_eq_true rfl) (Nat.le_of_ble_eq_true rfl) rfl rfl ?_
    refine pm_R_lo pm_M175 (pc' := 23) rfl rfl rfl ?_
    refine pm_R_get pm_M175 (pc' := 26) (v := .ref 44) rfl rfl rfl (Nat.le_of_ble_eq_true rfl) (Nat.le_of_ble_eq_true rfl) rfl rfl ?_
    refine pm_R_op pm_M175 (pc' := 27) (st' := [.int 0, .ref 44]) rfl rfl rfl ?_
    refine pm_R_op pm_M175 (pc' := 28) (st' := [.int 0, .int 0, .ref 44]) rfl rfl rfl ?_
    refine pm_R_iast pm_M175 (pc' := 29) rfl (hh 44 (Nat.le_of_ble_eq_true rfl)) (Nat.le_of_ble_eq_true rfl) (Nat.le_of_ble_eq_true rfl) rfl rfl ?_
    refine pm_R_lo pm_M175 (pc' := 30) rfl rfl rfl ?_
    refine pm_R_get pm_M175 (pc' := 33) (v := .ref 45) rfl rfl rfl (Nat.le_of_ble_eq_true rfl) (Nat.le_of_ble_eq_true rfl) rfl rfl ?_
    refine pm_R_op pm_M175 (pc' := 34) (st' := [.int 0, .ref 45]) rfl rfl rfl ?_
    refine pm_R_op pm_M175 (pc' := 35) (st' := [.int (-1), .int 0, .ref 45]) rfl rfl rfl ?_
    refine pm_R_iast pm_M175 (pc' := 36) rfl (hh 45 (Nat.le_of_ble_eq_true rfl)) (Nat.le_of_ble_eq_true rfl) (Nat.le_of_ble_eq_true rfl) rfl rfl ?_
    refine pm_R_lo pm_M175 (pc' := 37) rfl rfl rfl ?_
    refine pm_R_op pm_M175 (pc' := 38) (st' := [.int 0, .int 3]) rfl rfl rfl ?_
    refine pm_R_op pm_M175 (pc' := 39) (st' := [.int 3, .int 0, .int 3]) rfl rfl rfl ?_
    refine pm_R_cs pm_M175 (pc' := 42) (ra := [.int 3, .int 0, .int 3]) (rest := []) (ls' := [.int 3, .int 0, .int 3]) rfl rfl (Or.inl rfl) pm_M174 rfl rfl (Nat.le_of_ble_eq_true rfl) rfl rfl ?_
    refine pm_R_lo pm_M174 (pc' := 1) rfl rfl rfl ?_
    refine pm_R_lo pm_M174 (pc' := 2) rfl rfl rfl ?_
    refine pm_R_br pm_M174 (pc' := 5) (st' := []) rfl rfl ?_
    refine pm_R_lo pm_M174 (pc' := 6) rfl rfl rfl ?_
    refine pm_R_lo pm_M174 (pc' := 7) rfl rfl rfl ?_
    refine pm_R_br pm_M174 (pc' := 10) (st' := []) rfl rfl ?_
    refine pm_R_op pm_M174 (pc' := 11) (st' := [.int 1]) rfl rfl rfl ?_
    refine pm_R_br pm_M174 (pc' := 15) rfl rfl ?_
    refine pm_R_ret pm_M174 (r := some (.int 1)) rfl rfl ?_
    show pm_R _ 175 42 [.ref 41, .int 3, .int (-1), pm_no] [.int 1] _ _
    refine pm_R_br pm_M175 (pc' := 45) (st' := []) rfl rfl ?_
    refine pm_R_lo pm_M175 (pc' := 46) rfl rfl rfl ?_
    refine pm_R_op pm_M175 (pc' := 47) (st' := [.int (-1), .int (-1)]) rfl rfl rfl ?_
    refine pm_R_br pm_M175 (pc' := 50) (st' := []) rfl rfl ?_
    refine pm_R_lo pm_M175 (pc' := 51) rfl rfl rfl ?_
    refine pm_R_get pm_M175 (pc' := 54) (v := .ref 46) rfl rfl rfl (Nat.le_of_ble_eq_true rfl) (Nat.le_of_ble_eq_true rfl) rfl rfl ?_
    refine pm_R_lo pm_M175 (pc' := 55) rfl rfl rfl ?_
    refine pm_R_iald pm_M175 (pc' := 56) (v := 0) rfl (hh 46 (Nat.le_of_ble_eq_true rfl)) (Nat.le_of_ble_eq_true rfl) rfl rfl rfl ?_
    refine pm_R_lo pm_M175 (pc' := 57) rfl rfl rfl ?_
    refine pm_R_cs pm_M175 (pc' := 60) (ra := [.int 3]) (rest := [.int 0]) (ls' := [.int 3]) rfl rfl (Or.inl rfl) pm_M176 rfl rfl (Nat.le_of_ble_eq_true rfl) rfl rfl ?_
    refine pm_R_lo pm_M176 (pc' := 1) rfl rfl rfl ?_
    refine pm_R_op pm_M176 (pc' := 2) (st' := [.int 1, .int 3]) rfl rfl rfl ?_
    refine pm_R_br pm_M176 (pc' := 9) (st' := []) rfl rfl ?_
    refine pm_R_op pm_M176 (pc' := 10) (st' := [.int 2]) rfl rfl rfl ?_
    refine pm_R_ret pm_M176 (r := some (.int 2)) rfl rfl ?_
    show pm_R _ 175 60 [.ref 41, .int 3, .int (-1), pm_no] [.int 2, .int 0] _ _
    refine pm_R_br pm_M175 (pc' := 78) (st' := []) rfl rfl ?_
    refine pm_R_lo pm_M175 (pc' := 79) rfl rfl rfl ?_
    refine pm_R_lo pm_M175 (pc' := 80) rfl rfl rfl ?_
    refine pm_R_cv pm_M175 (pc' := 83) (a := 41) (ra := [.int 3]) (rest := []) (ls' := [.ref 41, .int 3, pm_no, pm_no]) rfl rfl (Or.inl rfl) pm_M178 rfl rfl (Nat.le_of_ble_eq_true rfl) (Nat.le_of_ble_eq_true rfl) rfl rfl (Nat.le_of_ble_eq_true rfl) rfl rfl ?_
    refine pm_R_op pm_M178 (pc' := 1) (st' := [.int 0]) rfl rfl rfl ?_
    refine pm_R_lo pm_M178 (pc' := 2) (ls' := [.ref 41, .int 3, .int 0, pm_no]) (st' := []) rfl rfl rfl ?_
    refine pm_R_heq (pm_set_self (a := 51) (c := .inl (0, 152, .inl (fun _ => 0))) (hh 51 (Nat.le_of_ble_eq_true rfl))).symm ?_
    refine p1_L1 rfl rfl (Nat.le_of_ble_eq_true rfl) (fun g_9 => ?_) 152 0 _ rfl
    refine pm_R_lo pm_M178 (pc' := 23) rfl rfl rfl ?_
    refine pm_R_get pm_M178 (pc' := 26) (v := .ref 51) rfl rfl rfl (Nat.le_of_ble_eq_true rfl) (Nat.le_of_ble_eq_true rfl) rfl rfl ?_
    refine pm_R_op pm_M178 (pc' := 27) (st' := [.int 0, .ref 51]) rfl rfl rfl ?_
    refine pm_R_lo pm_M178 (pc' := 28) rfl rfl rfl ?_
    refine pm_R_op pm_M178 (pc' := 29) (st' := [.int 2, .int 3, .int 0, .ref 51]) rfl rfl rfl ?_
    refine pm_R_br pm_M178 (pc' := 36) (st' := [.int 0, .ref 51]) rfl rfl ?_
    refine pm_R_op pm_M178 (pc' := 37) (st' := [.int 0, .int 0, .ref 51]) rfl rfl rfl ?_
    refine pm_R_iast pm_M178 (pc' := 38) rfl rfl (Nat.le_of_ble_eq_true rfl) (Nat.le_of_ble_eq_true rfl) rfl rfl ?_
    refine pm_R_lo pm_M178 (pc' := 39) rfl rfl rfl ?_
    refine pm_R_op pm_M178 (pc' := 40) (st' := [.int (-1), .ref 41]) rfl rfl rfl ?_
    refine pm_R_put pm_M178 (pc' := 43) (fs' := [.int 0, .ref 42, .ref 43, .ref 44, .ref 45, .ref 46, .ref 47, .ref 48, .ref 49, .ref 50, .int 0, .int 0, .int 0, .int 0, .int 0, .long 0, .int 0, .int 0, .int 0, .ref 51, .ref 52, .int (-1), .int 0, .int 0, .int 0, .ref 53, .int 0, .int 0, .ref 54, .ref 55, .ref 56, .int 0, .ref 57, .ref 58, .ref 59, .ref 60, .ref 61, .ref 62, .ref 63, .ref 64, .ref 65, .ref 66, .int 0, .int 0, .int 0, .ref 67, .ref 68, .int 0, .ref 69, .int 0, .int 0, .ref 70, .ref 71]) rfl rfl rfl rfl (Nat.le_of_ble_eq_true rfl) (Nat.le_of_ble_eq_true rfl) (Nat.le_of_ble_eq_true rfl) rfl (Or.inl rfl) rfl rfl ?_
    refine pm_R_lo pm_M178 (pc' := 44) rfl rfl rfl ?_
    refine pm_R_op pm_M178 (pc' := 45) (st' := [.int 0, .ref 41]) rfl rfl rfl ?_
    refine pm_R_put pm_M178 (pc' := 48) (fs' := [.int 0, .ref 42, .ref 43, .ref 44, .ref 45, .ref 46, .ref 47, .ref 48, .ref 49, .ref 50, .int 0, .int 0, .int 0, .int 0, .int 0, .long 0, .int 0, .int 0, .int 0, .ref 51, .ref 52, .int (-1), .int 0, .int 0, .int 0, .ref 53, .int 0, .int 0, .ref 54, .ref 55, .ref 56, .int 0, .ref 57, .ref 58, .ref 59, .ref 60, .ref 61, .ref 62, .ref 63, .ref 64, .ref 65, .ref 66, .int 0, .int 0, .int 0, .ref 67, .ref 68, .int 0, .ref 69, .int 0, .int 0, .ref 70, .ref 71]) rfl rfl rfl rfl (Nat.le_of_ble_eq_true rfl) (Nat.le_of_ble_eq_true rfl) (Nat.le_of_ble_eq_true rfl) rfl (Or.inl rfl) rfl rfl ?_
    refine pm_R_lo pm_M178 (pc' := 49) rfl rfl rfl ?_
    refine pm_R_op pm_M178 (pc' := 50) (st' := [.int 0, .ref 41]) rfl rfl rfl ?_
    refine pm_R_put pm_M178 (pc' := 53) (fs' := [.int 0, .ref 42, .ref 43, .ref 44, .ref 45, .ref 46, .ref 47, .ref 48, .ref 49, .ref 50, .int 0, .int 0, .int 0, .int 0, .int 0, .long 0, .int 0, .int 0, .int 0, .ref 51, .ref 52, .int (-1), .int 0, .int 0, .int 0, .ref 53, .int 0, .int 0, .ref 54, .ref 55, .ref 56, .int 0, .ref 57, .ref 58, .ref 59, .ref 60, .ref 61, .ref 62, .ref 63, .ref 64, .ref 65, .ref 66, .int 0, .int 0, .int 0, .ref 67, .ref 68, .int 0, .ref 69, .int 0, .int 0, .ref 70, .ref 71]) rfl rfl rfl rfl (Nat.le_of_ble_eq_true rfl) (Nat.le_of_ble_eq_true rfl) (Nat.le_of_ble_eq_true rfl) rfl (Or.inl rfl) rfl rfl ?_
    refine pm_R_lo pm_M178 (pc' := 54) rfl rfl rfl ?_
    refine pm_R_cv pm_M178 (pc' := 57) (a := 41) (ra := []) (rest := []) (ls' := [.ref 41, pm_no, pm_no]) rfl rfl (Or.inl rfl) pm_M179 rfl rfl (Nat.le_of_ble_eq_true rfl) (Nat.le_of_ble_eq_true rfl) rfl rfl (Nat.le_of_ble_eq_true rfl) rfl rfl ?_
    refine pm_R_lo pm_M179 (pc' := 1) rfl rfl rfl ?_
    refine pm_R_cv pm_M179 (pc' := 4) (a := 41) (ra := []) (rest := []) (ls' := [.ref 41]) rfl rfl (Or.inl rfl) pm_M180 rfl rfl (Nat.le_of_ble_eq_true rfl) (Nat.le_of_ble_eq_true rfl) rfl rfl (Nat.le_of_ble_eq_true rfl) rfl rfl ?_
    refine pm_R_lo pm_M180 (pc' := 1) rfl rfl rfl ?_
    refine pm_R_get pm_M180 (pc' := 4) (v := .int 0) rfl rfl rfl (Nat.le_of_ble_eq_true rfl) (Nat.le_of_ble_eq_true rfl) rfl rfl ?_
    refine pm_R_lo pm_M180 (pc' := 5) rfl rfl rfl ?_
    refine pm_R_get pm_M180 (pc' := 8) (v := .int 0) rfl rfl rfl (Nat.le_of_ble_eq_true rfl) (Nat.le_of_ble_eq_true rfl) rfl rfl ?_
    refine pm_R_br pm_M180 (pc' := 27) (st' := []) rfl rfl ?_
    refine pm_R_op pm_M180 (pc' := 28) (st' := [.int (-1)]) rfl rfl rfl ?_
    refine pm_R_ret pm_M180 (r := some (.int (-1))) rfl rfl ?_
    show pm_R _ 179 4 [.ref 41, pm_no, pm_no] [.int (-1)] _ _
    refine pm_R_op pm_M179 (pc' := 6) (st' := [.int 10, .int (-1)]) rfl rfl rfl ?_
    refine pm_R_br pm_M179 (pc' := 9) (st' := []) rfl rfl ?_
    refine pm_R_lo pm_M179 (pc' := 10) rfl rfl rfl ?_
    refine pm_R_cv pm_M179 (pc' := 13) (a := 41) (ra := []) (rest := []) (ls' := [.ref 41]) rfl rfl (Or.inl rfl) pm_M180 rfl rfl (Nat.le_of_ble_eq_true rfl) (Nat.le_of_ble_eq_true rfl) rfl rfl (Nat.le_of_ble_eq_true rfl) rfl rfl ?_
    refine pm_R_lo pm_M180 (pc' := 1) rfl rfl rfl ?_
    refine pm_R_get pm_M180 (pc' := 4) (v := .int 0) rfl rfl rfl (Nat.le_of_ble_eq_true rfl) (Nat.le_of_ble_eq_true rfl) rfl rfl ?_
    refine pm_R_lo pm_M180 (pc' := 5) rfl rfl rfl ?_
    refine pm_R_get pm_M180 (pc' := 8) (v := .int 0) rfl rfl rfl (Nat.le_of_ble_eq_true rfl) (Nat.le_of_ble_eq_true rfl) rfl rfl ?_
    refine pm_R_br pm_M180 (pc' := 27) (st' := []) rfl rfl ?_
    refine pm_R_op pm_M180 (pc' := 28) (st' := [.int (-1)]) rfl rfl rfl ?_
    refine pm_R_ret pm_M180 (r := some (.int (-1))) rfl rfl ?_
    show pm_R _ 179 13 [.ref 41, pm_no, pm_no] [.int (-1)] _ _
    refine pm_R_op pm_M179 (pc' := 15) (st' := [.int 32, .int (-1)]) rfl rfl rfl ?_
    refine pm_R_br pm_M179 (pc' := 31) (st' := []) rfl rfl ?_
    refine pm_R_lo pm_M179 (pc' := 32) rfl rfl rfl ?_
    refine pm_R_lo pm_M179 (pc' := 33) rfl rfl rfl ?_
    refine pm_R_get pm_M179 (pc' := 36) (v := .int 0) rfl rfl rfl (Nat.le_of_ble_eq_true rfl) (Nat.le_of_ble_eq_true rfl) rfl rfl ?_
    refine pm_R_put pm_M179 (pc' := 39) (fs' := [.int 0, .ref 42, .ref 43, .ref 44, .ref 45, .ref 46, .ref 47, .ref 48, .ref 49, .ref 50, .int 0, .int 0, .int 0, .int 0, .int 0, .long 0, .int 0, .int 0, .int 0, .ref 51, .ref 52, .int (-1), .int 0, .int 0, .int 0, .ref 53, .int 0, .int 0, .ref 54, .ref 55, .ref 56, .int 0, .ref 57, .ref 58, .ref 59, .ref 60, .ref 61, .ref 62, .ref 63, .ref 64, .ref 65, .ref 66, .int 0, .int 0, .int 0, .ref 67, .ref 68, .int 0, .ref 69, .int 0, .int 0, .ref 70, .ref 71]) rfl rfl rfl rfl (Nat.le_of_ble_eq_true rfl) (Nat.le_of_ble_eq_true rfl) (Nat.le_of_ble_eq_true rfl) rfl (Or.inl rfl) rfl rfl ?_
    refine pm_R_lo pm_M179 (pc' := 40) rfl rfl rfl ?_
    refine pm_R_cv pm_M179 (pc' := 43) (a := 41) (ra := []) (rest := []) (ls' := [.ref 41]) rfl rfl (Or.inl rfl) pm_M180 rfl rfl (Nat.le_of_ble_eq_true rfl) (Nat.le_of_ble_eq_true rfl) rfl rfl (Nat.le_of_ble_eq_true rfl) rfl rfl ?_
    refine pm_R_lo pm_M180 (pc' := 1) rfl rfl rfl ?_
    refine pm_R_get pm_M180 (pc' := 4) (v := .int 0) rfl rfl rfl (Nat.le_of_ble_eq_true rfl) (Nat.le_of_ble_eq_true rfl) rfl rfl ?_
    refine pm_R_lo pm_M180 (pc' := 5) rfl rfl rfl ?_
    refine pm_R_get pm_M180 (pc' := 8) (v := .int 0) rfl rfl rfl (Nat.le_of_ble_eq_true rfl) (Nat.le_of_ble_eq_true rfl) rfl rfl ?_
    refine pm_R_br pm_M180 (pc' := 27) (st' := []) rfl rfl ?_
    refine pm_R_op pm_M180 (pc' := 28) (st' := [.int (-1)]) rfl rfl rfl ?_
    refine pm_R_ret pm_M180 (r := some (.int (-1))) rfl rfl ?_
    show pm_R _ 179 43 [.ref 41, pm_no, pm_no] [.int (-1)] _ _
    refine pm_R_lo pm_M179 (pc' := 44) (ls' := [.ref 41, .int (-1), pm_no]) (st' := []) rfl rfl rfl ?_
    refine pm_R_lo pm_M179 (pc' := 45) rfl rfl rfl ?_
    refine pm_R_op pm_M179 (pc' := 46) (st' := [.long 0, .ref 41]) rfl rfl rfl ?_
    refine pm_R_put pm_M179 (pc' := 49) (fs' := [.int 0, .ref 42, .ref 43, .ref 44, .ref 45, .ref 46, .ref 47, .ref 48, .ref 49, .ref 50, .int 0, .int 0, .int 0, .int 0, .int 0, .long 0, .int 0, .int 0, .int 0, .ref 51, .ref 52, .int (-1), .int 0, .int 0, .int 0, .ref 53, .int 0, .int 0, .ref 54, .ref 55, .ref 56, .int 0, .ref 57, .ref 58, .ref 59, .ref 60, .ref 61, .ref 62, .ref 63, .ref 64, .ref 65, .ref 66, .int 0, .int 0, .int 0, .ref 67, .ref 68, .int 0, .ref 69, .int 0, .int 0, .ref 70, .ref 71]) rfl rfl rfl rfl (Nat.le_of_ble_eq_true rfl) (Nat.le_of_ble_eq_true rfl) (Nat.le_of_ble_eq_true rfl) rfl (Or.inl rfl) rfl rfl ?_
    refine pm_R_op pm_M179 (pc' := 50) (st' := [.int 0]) rfl rfl rfl ?_
    refine pm_R_lo pm_M179 (pc' := 51) (ls' := [.ref 41, .int (-1), .int 0]) (st' := []) rfl rfl rfl ?_
    refine pm_R_lo pm_M179 (pc' := 52) rfl rfl rfl ?_
    refine pm_R_br pm_M179 (pc' := 55) (st' := []) rfl rfl ?_
    refine pm_R_lo pm_M179 (pc' := 56) rfl rfl rfl ?_
    refine pm_R_op pm_M179 (pc' := 57) (st' := [.int 0, .ref 41]) rfl rfl rfl ?_
    refine pm_R_put pm_M179 (pc' := 60) (fs' := [.int 0, .ref 42, .ref 43, .ref 44, .ref 45, .ref 46, .ref 47, .ref 48, .ref 49, .ref 50, .int 0, .int 0, .int 0, .int 0, .int 0, .long 0, .int 0, .int 0, .int 0, .ref 51, .ref 52, .int (-1), .int 0, .int 0, .int 0, .ref 53, .int 0, .int 0, .ref 54, .ref 55, .ref 56, .int 0, .ref 57, .ref 58, .ref 59, .ref 60, .ref 61, .ref 62, .ref 63, .ref 64, .ref 65, .ref 66, .int 0, .int 0, .int 0, .ref 67, .ref 68, .int 0, .ref 69, .int 0, .int 0, .ref 70, .ref 71]) rfl rfl rfl rfl (Nat.le_of_ble_eq_true rfl) (Nat.le_of_ble_eq_true rfl) (Nat.le_of_ble_eq_true rfl) rfl (Or.inl rfl) rfl rfl ?_
    refine pm_R_br pm_M179 (pc' := 266) rfl rfl ?_
    refine pm_R_ret pm_M179 (r := none) (pm_q179_2 (Nat.le_of_ble_eq_true rfl)) rfl ?_
    show pm_R _ 178 57 [.ref 41, .int 3, .int 152, pm_no] [] _ _
    refine pm_R_lo pm_M178 (pc' := 58) rfl rfl rfl ?_
    refine pm_R_op pm_M178 (pc' := 59) (st' := [.int 1, .int 3]) rfl rfl rfl ?_
    refine pm_R_br pm_M178 (pc' := 69) (st' := []) rfl rfl ?_
    refine pm_R_lo pm_M178 (pc' := 70) rfl rfl rfl ?_
    refine pm_R_lo pm_M178 (pc' := 71) rfl rfl rfl ?_
    refine pm_R_cv pm_M178 (pc' := 74) (a := 41) (ra := [.int 3]) (rest := []) (ls' := [.ref 41, .int 3, pm_no, pm_no, pm_no, pm_no]) rfl rfl (Or.inl rfl) pm_M186 rfl rfl (Nat.le_of_ble_eq_true rfl) (Nat.le_of_ble_eq_true rfl) rfl rfl (Nat.le_of_ble_eq_true rfl) rfl rfl ?_
    refine pm_R_op pm_M186 (pc' := 1) (st' := [.int 1]) rfl rfl rfl ?_
    refine pm_R_lo pm_M186 (pc' := 2) (ls' := [.ref 41, .int 3, .int 1, pm_no, pm_no, pm_no]) (st' := []) rfl rfl rfl ?_
    refine pm_R_lo pm_M186 (pc' := 3) rfl rfl rfl ?_
    refine pm_R_br pm_M186 (pc' := 6) (st' := []) rfl rfl ?_
    refine pm_R_lo pm_M186 (pc' := 7) rfl rfl rfl ?_
    refine pm_R_get pm_M186 (pc' := 10) (v := .int 0) rfl rfl rfl (Nat.le_of_ble_eq_true rfl) (Nat.le_of_ble_eq_true rfl) rfl rfl ?_
    refine pm_R_br pm_M186 (pc' := 106) (st' := []) rfl rfl ?_
    refine pm_R_lo pm_M186 (pc' := 107) rfl rfl rfl ?_
    refine pm_R_ret pm_M186 (r := some (.int 1)) rfl rfl ?_
    show pm_R _ 178 74 [.ref 41, .int 3, .int 152, pm_no] [.int 1] _ _
    refine pm_R_lo pm_M178 (pc' := 75) (ls' := [.ref 41, .int 3, .int 1, pm_no]) (st' := []) rfl rfl rfl ?_
    refine pm_R_lo pm_M178 (pc' := 76) rfl rfl rfl ?_
    refine pm_R_op pm_M178 (pc' := 77) (st' := [.int 1, .int 3]) rfl rfl rfl ?_
    refine pm_R_br pm_M178 (pc' := 97) (st' := []) rfl rfl ?_
    refine pm_R_lo pm_M178 (pc' := 98) rfl rfl rfl ?_
    refine pm_R_op pm_M178 (pc' := 99) (st' := [.int 2, .int 3]) rfl rfl rfl ?_
    refine pm_R_br pm_M178 (pc' := 119) (st' := []) rfl rfl ?_
    refine pm_R_op pm_M178 (pc' := 120) (st' := [.int 0]) (pm_q178_1 (Nat.le_of_ble_eq_true rfl)) rfl rfl ?_
    refine pm_R_lo pm_M178 (pc' := 121) (ls' := [.ref 41, .int 3, .int 1, .int 0]) (st' := []) (pm_q178_1 (Nat.le_of_ble_eq_true rfl)) rfl rfl ?_
    refine pm_R_lo pm_M178 (pc' := 122) (pm_q178_1 (Nat.le_of_ble_eq_true rfl)) rfl rfl ?_
    refine pm_R_br pm_M178 (pc' := 125) (st' := []) (pm_q178_1 (Nat.le_of_ble_eq_true rfl)) rfl ?_
    refine pm_R_lo pm_M178 (pc' := 126) (pm_q178_1 (Nat.le_of_ble_eq_true rfl)) rfl rfl ?_
    refine pm_R_get pm_M178 (pc' := 129) (v := .int 0) (pm_q178_1 (Nat.le_of_ble_eq_true rfl)) rfl rfl (Nat.le_of_ble_eq_true rfl) (Nat.le_of_ble_eq_true rfl) rfl rfl ?_
    refine pm_R_br pm_M178 (pc' := 132) (st' := []) (pm_q178_1 (Nat.le_of_ble_eq_true rfl)) rfl ?_
    refine pm_R_lo pm_M178 (pc' := 133) (pm_q178_1 (Nat.le_of_ble_eq_true rfl)) rfl rfl ?_
    refine pm_R_br pm_M178 (pc' := 145) (st' := []) (pm_q178_1 (Nat.le_of_ble_eq_true rfl)) rfl ?_
    refine pm_R_lo pm_M178 (pc' := 146) (pm_q178_1 (Nat.le_of_ble_eq_true rfl)) rfl rfl ?_
    refine pm_R_get pm_M178 (pc' := 149) (v := .ref 44) (pm_q178_1 (Nat.le_of_ble_eq_true rfl)) rfl rfl (Nat.le_of_ble_eq_true rfl) (Nat.le_of_ble_eq_true rfl) rfl rfl ?_
    refine pm_R_op pm_M178 (pc' := 150) (st' := [.int 0, .ref 44]) (pm_q178_1 (Nat.le_of_ble_eq_true rfl)) rfl rfl ?_
    refine pm_R_lo pm_M178 (pc' := 151) (pm_q178_1 (Nat.le_of_ble_eq_true rfl)) rfl rfl ?_
    refine pm_R_br pm_M178 (pc' := 154) (st' := [.int 0, .ref 44]) (pm_q178_1 (Nat.le_of_ble_eq_true rfl)) rfl ?_
    refine pm_R_lo pm_M178 (pc' := 155) (pm_q178_1 (Nat.le_of_ble_eq_true rfl)) rfl rfl ?_
    refine pm_R_get pm_M178 (pc' := 158) (v := .int 0) (pm_q178_1 (Nat.le_of_ble_eq_true rfl)) rfl rfl (Nat.le_of_ble_eq_true rfl) (Nat.le_of_ble_eq_true rfl) rfl rfl ?_
    refine pm_R_br pm_M178 (pc' := 162) (pm_q178_1 (Nat.le_of_ble_eq_true rfl)) rfl ?_
    refine pm_R_iast pm_M178 (pc' := 163) (pm_q178_1 (Nat.le_of_ble_eq_true rfl)) rfl (Nat.le_of_ble_eq_true rfl) (Nat.le_of_ble_eq_true rfl) rfl rfl ?_
    refine pm_R_lo pm_M178 (pc' := 164) (pm_q178_1 (Nat.le_of_ble_eq_true rfl)) rfl rfl ?_
    refine pm_R_get pm_M178 (pc' := 167) (v := .ref 45) (pm_q178_1 (Nat.le_of_ble_eq_true rfl)) rfl rfl (Nat.le_of_ble_eq_true rfl) (Nat.le_of_ble_eq_true rfl) rfl rfl ?_
    refine pm_R_op pm_M178 (pc' := 168) (st' := [.int 0, .ref 45]) (pm_q178_1 (Nat.le_of_ble_eq_true rfl)) rfl rfl ?_
    refine pm_R_lo pm_M178 (pc' := 169) (pm_q178_1 (Nat.le_of_ble_eq_true rfl)) rfl rfl ?_
    refine pm_R_br pm_M178 (pc' := 179) (st' := [.int 0, .ref 45]) (pm_q178_1 (Nat.le_of_ble_eq_true rfl)) rfl ?_
    refine pm_R_lo pm_M178 (pc' := 180) (pm_q178_1 (Nat.le_of_ble_eq_true rfl)) rfl rfl ?_
    refine pm_R_get pm_M178 (pc' := 183) (v := .int 0) (pm_q178_1 (Nat.le_of_ble_eq_true rfl)) rfl rfl (Nat.le_of_ble_eq_true rfl) (Nat.le_of_ble_eq_true rfl) rfl rfl ?_
    refine pm_R_br pm_M178 (pc' := 193) (st' := [.int 0, .ref 45]) (pm_q178_1 (Nat.le_of_ble_eq_true rfl)) rfl ?_
    refine pm_R_op pm_M178 (pc' := 194) (st' := [.int (-1), .int 0, .ref 45]) (pm_q178_1 (Nat.le_of_ble_eq_true rfl)) rfl rfl ?_
    refine pm_R_iast pm_M178 (pc' := 195) (pm_q178_1 (Nat.le_of_ble_eq_true rfl)) rfl (Nat.le_of_ble_eq_true rfl) (Nat.le_of_ble_eq_true rfl) rfl rfl ?_
    refine pm_R_lo pm_M178 (pc' := 196) (pm_q178_1 (Nat.le_of_ble_eq_true rfl)) rfl rfl ?_
    refine pm_R_get pm_M178 (pc' := 199) (v := .ref 44) (pm_q178_1 (Nat.le_of_ble_eq_true rfl)) rfl rfl (Nat.le_of_ble_eq_true rfl) (Nat.le_of_ble_eq_true rfl) rfl rfl ?_
    refine pm_R_op pm_M178 (pc' := 200) (st' := [.int 0, .ref 44]) (pm_q178_1 (Nat.le_of_ble_eq_true rfl)) rfl rfl ?_
    refine pm_R_iald pm_M178 (pc' := 201) (v := 0) (pm_q178_1 (Nat.le_of_ble_eq_true rfl)) rfl (Nat.le_of_ble_eq_true rfl) rfl rfl rfl ?_
    refine pm_R_br pm_M178 (pc' := 204) (st' := []) (pm_q178_1 (Nat.le_of_ble_eq_true rfl)) rfl ?_
    refine pm_R_op pm_M178 (pc' := 205) (st' := [.int 1]) (pm_q178_1 (Nat.le_of_ble_eq_true rfl)) rfl rfl ?_
    refine pm_R_br pm_M178 (pc' := 209) (pm_q178_1 (Nat.le_of_ble_eq_true rfl)) rfl ?_
    refine pm_R_ret pm_M178 (r := some (.int 1)) (pm_q178_1 (Nat.le_of_ble_eq_true rfl)) rfl ?_
    show pm_R _ 175 83 [.ref 41, .int 3, .int (-1), pm_no] [.int 1] _ _
    refine pm_R_br pm_M175 (pc' := 88) (st' := []) rfl rfl ?_
    refine pm_R_lo pm_M175 (pc' := 89) rfl rfl rfl ?_
    refine pm_R_op pm_M175 (pc' := 90) (st' := [.int (-1), .int (-1)]) rfl rfl rfl ?_
    refine pm_R_br pm_M175 (pc' := 93) (st' := []) rfl rfl ?_
    refine pm_R_lo pm_M175 (pc' := 94) rfl rfl rfl ?_
    refine pm_R_get pm_M175 (pc' := 97) (v := .ref 46) rfl rfl rfl (Nat.le_of_ble_eq_true rfl) (Nat.le_of_ble_eq_true rfl) rfl rfl ?_
    refine pm_R_lo pm_M175 (pc' := 98) rfl rfl rfl ?_
    refine pm_R_iald pm_M175 (pc' := 99) (v := 0) rfl (hh 46 (Nat.le_of_ble_eq_true rfl)) (Nat.le_of_ble_eq_true rfl) rfl rfl rfl ?_
    refine pm_R_br pm_M175 (pc' := 103) (pm_q175_1 (Nat.le_of_ble_eq_true rfl)) rfl ?_
    refine pm_R_lo pm_M175 (pc' := 104) (ls' := [.ref 41, .int 3, .int (-1), .int 0]) (st' := []) (pm_q175_1 (Nat.le_of_ble_eq_true rfl)) rfl rfl ?_
    refine pm_R_lo pm_M175 (pc' := 105) (pm_q175_1 (Nat.le_of_ble_eq_true rfl)) rfl rfl ?_
    refine pm_R_get pm_M175 (pc' := 108) (v := .ref 46) (pm_q175_1 (Nat.le_of_ble_eq_true rfl)) rfl rfl (Nat.le_of_ble_eq_true rfl) (Nat.le_of_ble_eq_true rfl) rfl rfl ?_
    refine pm_R_lo pm_M175 (pc' := 109) (pm_q175_1 (Nat.le_of_ble_eq_true rfl)) rfl rfl ?_
    refine pm_R_op pm_M175 (pc' := 110) (st' := [.int 3, .ref 46, .int 3, .ref 46]) (pm_q175_1 (Nat.le_of_ble_eq_true rfl)) rfl rfl ?_
    refine pm_R_iald pm_M175 (pc' := 111) (v := 0) (pm_q175_1 (Nat.le_of_ble_eq_true rfl)) (hh 46 (Nat.le_of_ble_eq_true rfl)) (Nat.le_of_ble_eq_true rfl) rfl rfl rfl ?_
    refine pm_R_lo pm_M175 (pc' := 112) (pm_q175_1 (Nat.le_of_ble_eq_true rfl)) rfl rfl ?_
    refine pm_R_op pm_M175 (pc' := 113) (st' := [.int (-1), .int (-1), .int 0, .int 3, .ref 46]) (pm_q175_1 (Nat.le_of_ble_eq_true rfl)) rfl rfl ?_
    refine pm_R_br pm_M175 (pc' := 116) (st' := [.int 0, .int 3, .ref 46]) (pm_q175_1 (Nat.le_of_ble_eq_true rfl)) rfl ?_
    refine pm_R_op pm_M175 (pc' := 117) (st' := [.int 1, .int 0, .int 3, .ref 46]) (pm_q175_1 (Nat.le_of_ble_eq_true rfl)) rfl rfl ?_
    refine pm_R_br pm_M175 (pc' := 121) (pm_q175_1 (Nat.le_of_ble_eq_true rfl)) rfl ?_
    refine pm_R_op pm_M175 (pc' := 122) (st' := [.int 1, .int 3, .ref 46]) (pm_q175_1 (Nat.le_of_ble_eq_true rfl)) rfl rfl ?_
    refine pm_R_iast pm_M175 (pc' := 123) (pm_q175_1 (Nat.le_of_ble_eq_true rfl)) (hh 46 (Nat.le_of_ble_eq_true rfl)) (Nat.le_of_ble_eq_true rfl) (Nat.le_of_ble_eq_true rfl) rfl rfl ?_
    refine pm_R_lo pm_M175 (pc' := 124) (pm_q175_1 (Nat.le_of_ble_eq_true rfl)) rfl rfl ?_
    refine pm_R_br pm_M175 (pc' := 195) (st' := []) (pm_q175_1 (Nat.le_of_ble_eq_true rfl)) rfl ?_
    refine pm_R_lo pm_M175 (pc' := 196) (pm_q175_1 (Nat.le_of_ble_eq_true rfl)) rfl rfl ?_
    refine pm_R_lo pm_M175 (pc' := 197) (pm_q175_1 (Nat.le_of_ble_eq_true rfl)) rfl rfl ?_
    refine pm_R_get pm_M175 (pc' := 200) (v := .ref 50) (pm_q175_1 (Nat.le_of_ble_eq_true rfl)) rfl rfl (Nat.le_of_ble_eq_true rfl) (Nat.le_of_ble_eq_true rfl) rfl rfl ?_
    refine pm_R_op pm_M175 (pc' := 202) (st' := [.int 25, .ref 50, .ref 41]) (pm_q175_1 (Nat.le_of_ble_eq_true rfl)) rfl rfl ?_
    refine pm_R_lo pm_M175 (pc' := 203) (pm_q175_1 (Nat.le_of_ble_eq_true rfl)) rfl rfl ?_
    refine pm_R_cv pm_M175 (pc' := 206) (a := 41) (ra := [.int 0, .int 25, .ref 50]) (rest := []) (ls' := [.ref 41, .ref 50, .int 25, .int 0, pm_no]) (pm_q175_1 (Nat.le_of_ble_eq_true rfl)) rfl (Or.inl rfl) pm_M193 rfl rfl (Nat.le_of_ble_eq_true rfl) (Nat.le_of_ble_eq_true rfl) rfl rfl (Nat.le_of_ble_eq_true rfl) rfl rfl ?_
    refine pm_R_op pm_M193 (pc' := 1) (st' := [.int 0]) rfl rfl rfl ?_
    refine pm_R_lo pm_M193 (pc' := 3) (ls' := [.ref 41, .ref 50, .int 25, .int 0, .int 0]) (st' := []) rfl rfl rfl ?_
    refine pm_R_heq (pm_set_self (a := 50) (c := .inl (0, 200, .inl (fun _ => 0))) (hh 50 (Nat.le_of_ble_eq_true rfl))).symm ?_
    refine p1_L2 (a := 50) (w := 25) (N := 200) rfl rfl rfl (Nat.le_of_ble_eq_true rfl) (Nat.le_of_ble_eq_true rfl) (Nat.le_of_ble_eq_true rfl) (by decide) (by decide) (by decide) (by decide) (by decide) (fun g_10 => ?_) 25 0 _ rfl
    show pm_R _ 175 206 [.ref 41, .int 3, .int (-1), .int 0] [] _ _
    refine pm_R_lo pm_M175 (pc' := 207) (pm_q175_1 (Nat.le_of_ble_eq_true rfl)) rfl rfl ?_
    refine pm_R_ret pm_M175 (r := some (.int 0)) (pm_q175_1 (Nat.le_of_ble_eq_true rfl)) rfl ?_
    show pm_R _ 0 334 [.ref 0, .ref 16, .ref 41, .int 0] [.int 0, .int 0] _ _
    refine pm_R_br pm_M0 (pc' := 2121) (st' := []) (pm_q0_2 (Nat.le_of_ble_eq_true rfl)) rfl ?_
    exact p1_tail (hh 0 (Nat.le_of_ble_eq_true rfl)) (Nat.le_of_ble_eq_true rfl) (Nat.le_of_ble_eq_true rfl) (Nat.le_of_ble_eq_true rfl)
