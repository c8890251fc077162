set_option maxRecDepth 100000 in
set_option maxHeartbeats 40000000 in
theorem p1_c3 (xs : Nat → Int32) (f : Nat → pm_E) (hh : ∀ i, i < 72 → f i = pm_fF 7 xs i) (x0 x1 x2 x3 x4 x5 x6 : Int32) (hx0 : xs 0 = x0) (hx1 : xs 1 = x1) (hx2 : xs 2 = x2) (hx3 : xs 3 = x3) (hx4 : xs 4 = x4) (hx5 : xs 5 = x5) (hx6 : xs 6 = x6) : pm_R 100 0 339 [.ref 0, .ref 16, .ref 41, .int 0] [] (72, 52657, f) p1_Q := by
  refine pm_R_lo pm_M0 (pc' := 340) (pm_q0_2 (Nat.le_of_ble_eq_true rfl)) rfl rfl ?_
  refine pm_R_lo pm_M0 (pc' := 341) (pm_q0_2 (Nat.le_of_ble_eq_true rfl)) rfl rfl ?_
  refine pm_R_lo pm_M0 (pc' := 342) (pm_q0_2 (Nat.le_of_ble_eq_true rfl)) rfl rfl ?_
  refine pm_R_op pm_M0 (pc' := 343) (st' := [.int 1, .int 0, .ref 0, .ref 16]) (pm_q0_2 (Nat.le_of_ble_eq_true rfl)) rfl rfl ?_
  refine pm_R_op pm_M0 (pc' := 344) (st' := [.int 1, .ref 0, .ref 16]) (pm_q0_2 (Nat.le_of_ble_eq_true rfl)) rfl rfl ?_
  refine pm_R_iald pm_M0 (pc' := 345) (v := x1) (pm_q0_2 (Nat.le_of_ble_eq_true rfl)) (hh 0 (Nat.le_of_ble_eq_true rfl)) (Nat.le_of_ble_eq_true rfl) rfl hx1 rfl ?_
  refine pm_R_cv pm_M0 (pc' := 348) (a := 16) (ra := [.int x1]) (rest := []) (ls' := [.ref 16, .int x1]) (pm_q0_2 (Nat.le_of_ble_eq_true rfl)) rfl (Or.inl rfl) pm_M55 (hh 16 (Nat.le_of_ble_eq_true rfl)) rfl (Nat.le_of_ble_eq_true rfl) (Nat.le_of_ble_eq_true rfl) rfl rfl (Nat.le_of_ble_eq_true rfl) rfl rfl ?_
  refine pm_R_lo pm_M55 (pc' := 1) rfl rfl rfl ?_
  refine pm_R_ifc pm_M55 (t := 12) (pc' := 4) rfl rfl rfl (fun c_1 => ?_) (fun c_1 => ?_)
  · refine pm_R_lo pm_M55 (pc' := 13) rfl rfl rfl ?_
    refine pm_R_op pm_M55 (pc' := 14) (st' := [.int 1, .int x1]) rfl rfl rfl ?_
    refine pm_R_icmp pm_M55 (t := 27) (pc' := 17) rfl rfl rfl (fun c_2 => ?_) (fun c_2 => ?_)
    · refine pm_R_op pm_M55 (pc' := 28) (st' := [.int (-1)]) rfl rfl rfl ?_
      refine pm_R_ret pm_M55 (r := some (.int (-1))) rfl rfl ?_
      show pm_R _ 0 348 [.ref 0, .ref 16, .ref 41, .int 0] [.int (-1)] _ _
      refine pm_R_lo pm_M0 (pc' := 349) (pm_q0_2 (Nat.le_of_ble_eq_true rfl)) rfl rfl ?_
      refine pm_R_lo pm_M0 (pc' := 350) (pm_q0_2 (Nat.le_of_ble_eq_true rfl)) rfl rfl ?_
      refine pm_R_lo pm_M0 (pc' := 351) (pm_q0_2 (Nat.le_of_ble_eq_true rfl)) rfl rfl ?_
      refine pm_R_op pm_M0 (pc' := 352) (st' := [.int 1, .int 0, .ref 0, .ref 41, .int (-1)]) (pm_q0_2 (Nat.le_of_ble_eq_true rfl)) rfl rfl ?_
      refine pm_R_op pm_M0 (pc' := 353) (st' := [.int 1, .ref 0, .ref 41, .int (-1)]) (pm_q0_2 (Nat.le_of_ble_eq_true rfl)) rfl rfl ?_
      refine pm_R_iald pm_M0 (pc' := 354) (v := x1) (pm_q0_2 (Nat.le_of_ble_eq_true rfl)) (hh 0 (Nat.le_of_ble_eq_true rfl)) (Nat.le_of_ble_eq_true rfl) rfl hx1 rfl ?_
      refine pm_R_cv pm_M0 (pc' := 357) (a := 41) (ra := [.int x1]) (rest := [.int (-1)]) (ls' := [.ref 41, .int x1]) (pm_q0_2 (Nat.le_of_ble_eq_true rfl)) rfl (Or.inl rfl) pm_M194 (hh 41 (Nat.le_of_ble_eq_true rfl)) rfl (Nat.le_of_ble_eq_true rfl) (Nat.le_of_ble_eq_true rfl) rfl rfl (Nat.le_of_ble_eq_true rfl) rfl rfl ?_
      refine pm_R_lo pm_M194 (pc' := 1) rfl rfl rfl ?_
      refine pm_R_op pm_M194 (pc' := 2) (st' := [.int 0, .ref 41]) rfl rfl rfl ?_
      refine pm_R_put pm_M194 (pc' := 5) (fs' := [.int 0, .ref 42, .ref 43, .ref 44, .ref 45, .ref 46, .ref 47, .ref 48, .ref 49, .ref 50, .int 0, .int 0, .int 0, .int 0, .int 0, .long 0, .int 0, .int 0, .int 0, .ref 51, .ref 52, .int 0, .int 0, .int 0, .int 0, .ref 53, .int 0, .int 0, .ref 54, .ref 55, .ref 56, .int 0, .ref 57, .ref 58, .ref 59, .ref 60, .ref 61, .ref 62, .ref 63, .ref 64, .ref 65, .ref 66, .int 0, .int 0, .int 0, .ref 67, .ref 68, .int 0, .ref 69, .int 0, .int 0, .ref 70, .ref 71]) rfl rfl rfl (hh 41 (Nat.le_of_ble_eq_true rfl)) (Nat.le_of_ble_eq_true rfl) (Nat.le_of_ble_eq_true rfl) (Nat.le_of_ble_eq_true rfl) rfl (Or.inl rfl) rfl rfl ?_
      refine pm_R_lo pm_M194 (pc' := 6) rfl rfl rfl ?_
      refine pm_R_ifc pm_M194 (t := 18) (pc' := 9) rfl rfl rfl (fun c_3 => ?_) (fun c_3 => by exact absurd c_1 c_3)
      refine pm_R_lo pm_M194 (pc' := 19) rfl rfl rfl ?_
      refine pm_R_op pm_M194 (pc' := 20) (st' := [.int 1, .int x1]) rfl rfl rfl ?_
      refine pm_R_icmp pm_M194 (t := 32) (pc' := 23) rfl rfl rfl (fun c_4 => ?_) (fun c_4 => by exact absurd c_2 c_4)
      refine pm_R_op pm_M194 (pc' := 33) (st' := [.int (-1)]) rfl rfl rfl ?_
      refine pm_R_ret pm_M194 (r := some (.int (-1))) rfl rfl ?_
      show pm_R _ 0 357 [.ref 0, .ref 16, .ref 41, .int 0] [.int (-1), .int (-1)] _ _
      refine pm_R_br pm_M0 (pc' := 2121) (st' := []) (pm_q0_2 (Nat.le_of_ble_eq_true rfl)) rfl ?_
      exact p1_tail (hh 0 (Nat.le_of_ble_eq_true rfl)) (Nat.le_of_ble_eq_true rfl) (Nat.le_of_ble_eq_true rfl) (Nat.le_of_ble_eq_true rfl)
    · have c_2 : x1 = 1 := Classical.not_not.mp c_2
      subst c_2
      show pm_R _ 55 17 [.ref 16, .int 1] [] _ _
      refine pm_R_lo pm_M55 (pc' := 18) rfl rfl rfl ?_
      refine pm_R_get pm_M55 (pc' := 21) (v := .ref 17) rfl rfl (hh 16 (Nat.le_of_ble_eq_true rfl)) (Nat.le_of_ble_eq_true rfl) (Nat.le_of_ble_eq_true rfl) rfl rfl ?_
      refine pm_R_get pm_M55 (pc' := 24) (v := .int (-1)) rfl rfl (hh 17 (Nat.le_of_ble_eq_true rfl)) (Nat.le_of_ble_eq_true rfl) (Nat.le_of_ble_eq_true rfl) rfl rfl ?_
      refine pm_R_br pm_M55 (pc' := 28) rfl rfl ?_
      refine pm_R_ret pm_M55 (r := some (.int (-1))) rfl rfl ?_
      show pm_R _ 0 348 [.ref 0, .ref 16, .ref 41, .int 0] [.int (-1)] _ _
      refine pm_R_lo pm_M0 (pc' := 349) (pm_q0_2 (Nat.le_of_ble_eq_true rfl)) rfl rfl ?_
      refine pm_R_lo pm_M0 (pc' := 350) (pm_q0_2 (Nat.le_of_ble_eq_true rfl)) rfl rfl ?_
      refine pm_R_lo pm_M0 (pc' := 351) (pm_q0_2 (Nat.le_of_ble_eq_true rfl)) rfl rfl ?_
      refine pm_R_op pm_M0 (pc' := 352) (st' := [.int 1, .int 0, .ref 0, .ref 41, .int (-1)]) (pm_q0_2 (Nat.le_of_ble_eq_true rfl)) rfl rfl ?_
      refine pm_R_op pm_M0 (pc' := 353) (st' := [.int 1, .ref 0, .ref 41, .int (-1)]) (pm_q0_2 (Nat.le_of_ble_eq_true rfl)) rfl rfl ?_
      refine pm_R_iald pm_M0 (pc' := 354) (v := 1) (pm_q0_2 (Nat.le_of_ble_eq_true rfl)) (hh 0 (Nat.le_of_ble_eq_true rfl)) (Nat.le_of_ble_eq_true rfl) rfl hx1 rfl ?_
      refine pm_R_cv pm_M0 (pc' := 357) (a := 41) (ra := [.int 1]) (rest := [.int (-1)]) (ls' := [.ref 41, .int 1]) (pm_q0_2 (Nat.le_of_ble_eq_true rfl)) rfl (Or.inl rfl) pm_M194 (hh 41 (Nat.le_of_ble_eq_true rfl)) rfl (Nat.le_of_ble_eq_true rfl) (Nat.le_of_ble_eq_true rfl) rfl rfl (Nat.le_of_ble_eq_true rfl) rfl rfl ?_
      refine pm_R_lo pm_M194 (pc' := 1) rfl rfl rfl ?_
      refine pm_R_op pm_M194 (pc' := 2) (st' := [.int 0, .ref 41]) rfl rfl rfl ?_
      refine pm_R_put pm_M194 (pc' := 5) (fs' := [.int 0, .ref 42, .ref 43, .ref 44, .ref 45, .ref 46, .ref 47, .ref 48, .ref 49, .ref 50, .int 0, .int 0, .int 0, .int 0, .int 0, .long 0, .int 0, .int 0, .int 0, .ref 51, .ref 52, .int 0, .int 0, .int 0, .int 0, .ref 53, .int 0, .int 0, .ref 54, .ref 55, .ref 56, .int 0, .ref 57, .ref 58, .ref 59, .ref 60, .ref 61, .ref 62, .ref 63, .ref 64, .ref 65, .ref 66, .int 0, .int 0, .int 0, .ref 67, .ref 68, .int 0, .ref 69, .int 0, .int 0, .ref 70, .ref 71]) rfl rfl rfl (hh 41 (Nat.le_of_ble_eq_true rfl)) (Nat.le_of_ble_eq_true rfl) (Nat.le_of_ble_eq_true rfl) (Nat.le_of_ble_eq_true rfl) rfl (Or.inl rfl) rfl rfl ?_
      refine pm_R_lo pm_M194 (pc' := 6) rfl rfl rfl ?_
      refine pm_R_br pm_M194 (pc' := 18) (st' := []) rfl rfl ?_
      refine pm_R_lo pm_M194 (pc' := 19) rfl rfl rfl ?_
      refine pm_R_op pm_M194 (pc' := 20) (st' := [.int 1, .int 1]) rfl rfl rfl ?_
      refine pm_R_br pm_M194 (pc' := 23) (st' := []) rfl rfl ?_
      refine pm_R_lo pm_M194 (pc' := 24) rfl rfl rfl ?_
      refine pm_R_get pm_M194 (pc' := 27) (v := .ref 45) rfl rfl rfl (Nat.le_of_ble_eq_true rfl) (Nat.le_of_ble_eq_true rfl) rfl rfl ?_
      refine pm_R_op pm_M194 (pc' := 28) (st' := [.int 0, .ref 45]) rfl rfl rfl ?_
      refine pm_R_iald pm_M194 (pc' := 29) (v := (-1)) rfl (hh 45 (Nat.le_of_ble_eq_true rfl)) (Nat.le_of_ble_eq_true rfl) rfl rfl rfl ?_
      refine pm_R_br pm_M194 (pc' := 33) rfl rfl ?_
      refine pm_R_ret pm_M194 (r := some (.int (-1))) rfl rfl ?_
      show pm_R _ 0 357 [.ref 0, .ref 16, .ref 41, .int 0] [.int (-1), .int (-1)] _ _
      refine pm_R_br pm_M0 (pc' := 2121) (st' := []) (pm_q0_2 (Nat.le_of_ble_eq_true rfl)) rfl ?_
      exact p1_tail (hh 0 (Nat.le_of_ble_eq_true rfl)) (Nat.le_of_ble_eq_true rfl) (Nat.le_of_ble_eq_true rfl) (Nat.le_of_ble_eq_true rfl)
  · have c_1 : x1 = 0 := Classical.not_not.mp c_1
    subst c_1
    show pm_R _ 55 4 [.ref 16, .int 0] [] _ _
    refine pm_R_lo pm_M55 (pc' := 5) rfl rfl rfl ?_
    refine pm_R_get pm_M55 (pc' := 8) (v := .ref 17) rfl rfl (hh 16 (Nat.le_of_ble_eq_true rfl)) (Nat.le_of_ble_eq_true rfl) (Nat.le_of_ble_eq_true rfl) rfl rfl ?_
    refine pm_R_get pm_M55 (pc' := 11) (v := .int 0) rfl rfl (hh 17 (Nat.le_of_ble_eq_true rfl)) (Nat.le_of_ble_eq_true rfl) (Nat.le_of_ble_eq_true rfl) rfl rfl ?_
    refine pm_R_ret pm_M55 (r := some (.int 0)) rfl rfl ?_
    show pm_R _ 0 348 [.ref 0, .ref 16, .ref 41, .int 0] [.int 0] _ _
    refine pm_R_lo pm_M0 (pc' := 349) (pm_q0_2 (Nat.le_of_ble_eq_true rfl)) rfl rfl ?_
    refine pm_R_lo pm_M0 (pc' := 350) (pm_q0_2 (Nat.le_of_ble_eq_true rfl)) rfl rfl ?_
    refine pm_R_lo pm_M0 (pc' := 351) (pm_q0_2 (Nat.le_of_ble_eq_true rfl)) rfl rfl ?_
    refine pm_R_op pm_M0 (pc' := 352) (st' := [.int 1, .int 0, .ref 0, .ref 41, .int 0]) (pm_q0_2 (Nat.le_of_ble_eq_true rfl)) rfl rfl ?_
    refine pm_R_op pm_M0 (pc' := 353) (st' := [.int 1, .ref 0, .ref 41, .int 0]) (pm_q0_2 (Nat.le_of_ble_eq_true rfl)) rfl rfl ?_
    refine pm_R_iald pm_M0 (pc' := 354) (v := 0) (pm_q0_2 (Nat.le_of_ble_eq_true rfl)) (hh 0 (Nat.le_of_ble_eq_true rfl)) (Nat.le_of_ble_eq_true rfl) rfl hx1 rfl ?_
    refine pm_R_cv pm_M0 (pc' := 357) (a := 41) (ra := [.int 0]) (rest := [.int 0]) (ls' := [.ref 41, .int 0]) (pm_q0_2 (Nat.le_of_ble_eq_true rfl)) rfl (Or.inl rfl) pm_M194 (hh 41 (Nat.le_of_ble_eq_true rfl)) rfl (Nat.le_of_ble_eq_true rfl) (Nat.le_of_ble_eq_true rfl) rfl rfl (Nat.le_of_ble_eq_true rfl) rfl rfl ?_
    refine pm_R_lo pm_M194 (pc' := 1) rfl rfl rfl ?_
    refine pm_R_op pm_M194 (pc' := 2) (st' := [.int 0, .ref 41]) rfl rfl rfl ?_
    refine pm_R_put pm_M194 (pc' := 5) (fs' := [.int 0, .ref 42, .ref 43, .ref 44, .ref 45, .ref 46, .ref 47, .ref 48, .ref 49, .ref 50, .int 0, .int 0, .int 0, .int 0, .int 0, .long 0, .int 0, .int 0, .int 0, .ref 51, .ref 52, .int 0, .int 0, .int 0, .int 0, .ref 53, .int 0, .int 0, .ref 54, .ref 55, .ref 56, .int 0, .ref 57, .ref 58, .ref 59, .ref 60, .ref 61, .ref 62, .ref 63, .ref 64, .ref 65, .ref 66, .int 0, .int 0, .int 0, .ref 67, .ref 68, .int 0, .ref 69, .int 0, .int 0, .ref 70, .ref 71]) rfl rfl rfl (hh 41 (Nat.le_of_ble_eq_true rfl)) (Nat.le_of_ble_eq_true rfl) (Nat.le_of_ble_eq_true rfl) (Nat.le_of_ble_eq_true rfl) rfl (Or.inl rfl) rfl rfl ?_
    refine pm_R_lo pm_M194 (pc' := 6) rfl rfl rfl ?_
    refine pm_R_br pm_M194 (pc' := 9) (st' := []) rfl rfl ?_
    refine pm_R_lo pm_M194 (pc' := 10) rfl rfl rfl ?_
    refine pm_R_get pm_M194 (pc' := 13) (v := .ref 44) rfl rfl rfl (Nat.le_of_ble_eq_true rfl) (Nat.le_of_ble_eq_true rfl) rfl rfl ?_
    refine pm_R_op pm_M194 (pc' := 14) (st' := [.int 0, .ref 44]) rfl rfl rfl ?_
    refine pm_R_iald pm_M194 (pc' := 15) (v := 0) rfl (hh 44 (Nat.le_of_ble_eq_true rfl)) (Nat.le_of_ble_eq_true rfl) rfl rfl rfl ?_
    refine pm_R_br pm_M194 (pc' := 33) rfl rfl ?_
    refine pm_R_ret pm_M194 (r := some (.int 0)) rfl rfl ?_
    show pm_R _ 0 357 [.ref 0, .ref 16, .ref 41, .int 0] [.int 0, .int 0] _ _
    refine pm_R_br pm_M0 (pc' := 2121) (st' := []) (pm_q0_2 (Nat.le_of_ble_eq_true rfl)) rfl ?_
    exact p1_tail (hh 0 (Nat.le_of_ble_eq_true rfl)) (Nat.le_of_ble_eq_true rfl) (Nat.le_of_ble_eq_true rfl) (Nat.le_of_ble_eq_true rfl)
set_option maxRecDepth 100000 in
set_option maxHeartbeats 40000000 in
theorem p1_c4 (xs : Nat → Int32) (f : Nat → pm_E) (hh : ∀ i, i < 72 → f i = pm_fF 7 xs i) (x0 x1 x2 x3 x4 x5 x6 : Int32) (hx0 : xs 0 = x0) (hx1 : xs 1 = x1) (hx2 : xs 2 = x2) (hx3 : xs 3 = x3) (hx4 : xs 4 = x4) (hx5 : xs 5 = x5) (hx6 : xs 6 = x6) : pm_R 100 0 362 [.ref 0, .ref 16, .ref 41, .int 0] [] (72, 52657, f) p1_Q := by
  refine pm_R_lo pm_M0 (pc' := 363) (pm_q0_2 (Nat.le_of_ble_eq_true rfl)) rfl rfl ?_
  refine pm_R_lo pm_M0 (pc' := 364) (pm_q0_2 (Nat.le_of_ble_eq_true rfl)) rfl rfl ?_
  refine pm_R_lo pm_M0 (pc' := 365) (pm_q0_2 (Nat.le_of_ble_eq_true rfl)) rfl rfl ?_
  refine pm_R_op pm_M0 (pc' := 366) (st' := [.int 1, .int 0, .ref 0, .ref 16]) (pm_q0_2 (Nat.le_of_ble_eq_true rfl)) rfl rfl ?_
  refine pm_R_op pm_M0 (pc' := 367) (st' := [.int 1, .ref 0, .ref 16]) (pm_q0_2 (Nat.le_of_ble_eq_true rfl)) rfl rfl ?_
  refine pm_R_iald pm_M0 (pc' := 368) (v := x1) (pm_q0_2 (Nat.le_of_ble_eq_true rfl)) (hh 0 (Nat.le_of_ble_eq_true rfl)) (Nat.le_of_ble_eq_true rfl) rfl hx1 rfl ?_
  refine pm_R_lo pm_M0 (pc' := 369) (pm_q0_2 (Nat.le_of_ble_eq_true rfl)) rfl rfl ?_
  refine pm_R_lo pm_M0 (pc' := 370) (pm_q0_2 (Nat.le_of_ble_eq_true rfl)) rfl rfl ?_
  refine pm_R_op pm_M0 (pc' := 371) (st' := [.int 2, .int 0, .ref 0, .int x1, .ref 16]) (pm_q0_2 (Nat.le_of_ble_eq_true rfl)) rfl rfl ?_
  refine pm_R_op pm_M0 (pc' := 372) (st' := [.int 2, .ref 0, .int x1, .ref 16]) (pm_q0_2 (Nat.le_of_ble_eq_true rfl)) rfl rfl ?_
  refine pm_R_iald pm_M0 (pc' := 373) (v := x2) (pm_q0_2 (Nat.le_of_ble_eq_true rfl)) (hh 0 (Nat.le_of_ble_eq_true rfl)) (Nat.le_of_ble_eq_true rfl) rfl hx2 rfl ?_
  refine pm_R_cv pm_M0 (pc' := 376) (a := 16) (ra := [.int x2, .int x1]) (rest := []) (ls' := [.ref 16, .int x1, .int x2, pm_no]) (pm_q0_2 (Nat.le_of_ble_eq_true rfl)) rfl (Or.inl rfl) pm_M61 (hh 16 (Nat.le_of_ble_eq_true rfl)) rfl (Nat.le_of_ble_eq_true rfl) (Nat.le_of_ble_eq_true rfl) rfl rfl (Nat.le_of_ble_eq_true rfl) rfl rfl ?_
  refine pm_R_lo pm_M61 (pc' := 1) rfl rfl rfl ?_
  refine pm_R_lo pm_M61 (pc' := 2) rfl rfl rfl ?_
  refine pm_R_cv pm_M61 (pc' := 5) (a := 16) (ra := [.int x1]) (rest := []) (ls' := [.ref 16, .int x1]) rfl rfl (Or.inl rfl) pm_M62 (hh 16 (Nat.le_of_ble_eq_true rfl)) rfl (Nat.le_of_ble_eq_true rfl) (Nat.le_of_ble_eq_true rfl) rfl rfl (Nat.le_of_ble_eq_true rfl) rfl rfl ?_
  refine pm_R_lo pm_M62 (pc' := 1) rfl rfl rfl ?_
  refine pm_R_ifc pm_M62 (t := 17) (pc' := 4) rfl rfl rfl (fun c_1 => ?_) (fun c_1 => ?_)
  · refine pm_R_op pm_M62 (pc' := 18) (st' := [.null]) rfl rfl rfl ?_
    refine pm_R_br pm_M62 (pc' := 30) rfl rfl ?_
    refine pm_R_ret pm_M62 (r := some (.null)) rfl rfl ?_
    show pm_R _ 61 5 [.ref 16, .int x1, .int x2, pm_no] [.null] _ _
    refine pm_R_lo pm_M61 (pc' := 6) (ls' := [.ref 16, .int x1, .int x2, .null]) (st' := []) rfl rfl rfl ?_
    refine pm_R_lo pm_M61 (pc' := 7) rfl rfl rfl ?_
    refine pm_R_br pm_M61 (pc' := 10) rfl rfl ?_
    refine pm_R_op pm_M61 (pc' := 11) (st' := [.int (-1)]) rfl rfl rfl ?_
    refine pm_R_ret pm_M61 (r := some (.int (-1))) rfl rfl ?_
    show pm_R _ 0 376 [.ref 0, .ref 16, .ref 41, .int 0] [.int (-1)] _ _
    refine pm_R_lo pm_M0 (pc' := 377) (pm_q0_2 (Nat.le_of_ble_eq_true rfl)) rfl rfl ?_
    refine pm_R_lo pm_M0 (pc' := 378) (pm_q0_2 (Nat.le_of_ble_eq_true rfl)) rfl rfl ?_
    refine pm_R_lo pm_M0 (pc' := 379) (pm_q0_2 (Nat.le_of_ble_eq_true rfl)) rfl rfl ?_
    refine pm_R_op pm_M0 (pc' := 380) (st' := [.int 1, .int 0, .ref 0, .ref 41, .int (-1)]) (pm_q0_2 (Nat.le_of_ble_eq_true rfl)) rfl rfl ?_
    refine pm_R_op pm_M0 (pc' := 381) (st' := [.int 1, .ref 0, .ref 41, .int (-1)]) (pm_q0_2 (Nat.le_of_ble_eq_true rfl)) rfl rfl ?_
    refine pm_R_iald pm_M0 (pc' := 382) (v := x1) (pm_q0_2 (Nat.le_of_ble_eq_true rfl)) (hh 0 (Nat.le_of_ble_eq_true rfl)) (Nat.le_of_ble_eq_true rfl) rfl hx1 rfl ?_
    refine pm_R_lo pm_M0 (pc' := 383) (pm_q0_2 (Nat.le_of_ble_eq_true rfl)) rfl rfl ?_
    refine pm_R_lo pm_M0 (pc' := 384) (pm_q0_2 (Nat.le_of_ble_eq_true rfl)) rfl rfl ?_
    refine pm_R_op pm_M0 (pc' := 385) (st' := [.int 2, .int 0, .ref 0, .int x1, .ref 41, .int (-1)]) (pm_q0_2 (Nat.le_of_ble_eq_true rfl)) rfl rfl ?_
    refine pm_R_op pm_M0 (pc' := 386) (st' := [.int 2, .ref 0, .int x1, .ref 41, .int (-1)]) (pm_q0_2 (Nat.le_of_ble_eq_true rfl)) rfl rfl ?_
    refine pm_R_iald pm_M0 (pc' := 387) (v := x2) (pm_q0_2 (Nat.le_of_ble_eq_true rfl)) (hh 0 (Nat.le_of_ble_eq_true rfl)) (Nat.le_of_ble_eq_true rfl) rfl hx2 rfl ?_
    refine pm_R_cv pm_M0 (pc' := 390) (a := 41) (ra := [.int x2, .int x1]) (rest := [.int (-1)]) (ls' := [.ref 41, .int x1, .int x2]) (pm_q0_2 (Nat.le_of_ble_eq_true rfl)) rfl (Or.inl rfl) pm_M195 (hh 41 (Nat.le_of_ble_eq_true rfl)) rfl (Nat.le_of_ble_eq_true rfl) (Nat.le_of_ble_eq_true rfl) rfl rfl (Nat.le_of_ble_eq_true rfl) rfl rfl ?_
    refine pm_R_lo pm_M195 (pc' := 1) rfl rfl rfl ?_
    refine pm_R_op pm_M195 (pc' := 2) (st' := [.int 0, .ref 41]) rfl rfl rfl ?_
    refine pm_R_put pm_M195 (pc' := 5) (fs' := [.int 0, .ref 42, .ref 43, .ref 44, .ref 45, .ref 46, .ref 47, .ref 48, .ref 49, .ref 50, .int 0, .int 0, .int 0, .int 0, .int 0, .long 0, .int 0, .int 0, .int 0, .ref 51, .ref 52, .int 0, .int 0, .int 0, .int 0, .ref 53, .int 0, .int 0, .ref 54, .ref 55, .ref 56, .int 0, .ref 57, .ref 58, .ref 59, .ref 60, .ref 61, .ref 62, .ref 63, .ref 64, .ref 65, .ref 66, .int 0, .int 0, .int 0, .ref 67, .ref 68, .int 0, .ref 69, .int 0, .int 0, .ref 70, .ref 71]) rfl rfl rfl (hh 41 (Nat.le_of_ble_eq_true rfl)) (Nat.le_of_ble_eq_true rfl) (Nat.le_of_ble_eq_true rfl) (Nat.le_of_ble_eq_true rfl) rfl (Or.inl rfl) rfl rfl ?_
    refine pm_R_lo pm_M195 (pc' := 6) rfl rfl rfl ?_
    refine pm_R_op pm_M195 (pc' := 7) (st' := [.int 0, .ref 41]) rfl rfl rfl ?_
    refine pm_R_lo pm_M195 (pc' := 8) rfl rfl rfl ?_
    refine pm_R_cv pm_M195 (pc' := 11) (a := 41) (ra := [.int x1, .int 0]) (rest := []) (ls' := [.ref 41, .int 0, .int x1]) rfl rfl (Or.inl rfl) pm_M177 rfl rfl (Nat.le_of_ble_eq_true rfl) (Nat.le_of_ble_eq_true rfl) rfl rfl (Nat.le_of_ble_eq_true rfl) rfl rfl ?_
    refine pm_R_lo pm_M177 (pc' := 1) rfl rfl rfl ?_
    refine pm_R_op pm_M177 (pc' := 2) (st' := [.int 0, .int x1]) rfl rfl rfl ?_
    refine pm_R_lo pm_M177 (pc' := 3) rfl rfl rfl ?_
    refine pm_R_get pm_M177 (pc' := 6) (v := .ref 46) rfl rfl rfl (Nat.le_of_ble_eq_true rfl) (Nat.le_of_ble_eq_true rfl) rfl rfl ?_
    refine pm_R_lo pm_M177 (pc' := 7) rfl rfl rfl ?_
    refine pm_R_iald pm_M177 (pc' := 8) (v := 0) rfl (hh 46 (Nat.le_of_ble_eq_true rfl)) (Nat.le_of_ble_eq_true rfl) rfl rfl rfl ?_
    refine pm_R_op pm_M177 (pc' := 9) (st' := [.int 1, .int 0, .int 0, .int x1]) rfl rfl rfl ?_
    refine pm_R_op pm_M177 (pc' := 10) (st' := [.int (-1), .int 0, .int x1]) rfl rfl rfl ?_
    refine pm_R_cs pm_M177 (pc' := 13) (ra := [.int (-1), .int 0, .int x1]) (rest := []) (ls' := [.int x1, .int 0, .int (-1)]) rfl rfl (Or.inl rfl) pm_M174 rfl rfl (Nat.le_of_ble_eq_true rfl) rfl rfl ?_
    refine pm_R_lo pm_M174 (pc' := 1) rfl rfl rfl ?_
    refine pm_R_lo pm_M174 (pc' := 2) rfl rfl rfl ?_
    refine pm_R_icmp pm_M174 (t := 14) (pc' := 5) rfl rfl rfl (fun c_2 => ?_) (fun c_2 => by exact absurd c_1 c_2)
    refine pm_R_op pm_M174 (pc' := 15) (st' := [.int 0]) rfl rfl rfl ?_
    refine pm_R_ret pm_M174 (r := some (.int 0)) rfl rfl ?_
    show pm_R _ 177 13 [.ref 41, .int 0, .int x1] [.int 0] _ _
    refine pm_R_ret pm_M177 (r := some (.int 0)) rfl rfl ?_
    show pm_R _ 195 11 [.ref 41, .int x1, .int x2] [.int 0] _ _
    refine pm_R_br pm_M195 (pc' := 63) (st' := []) rfl rfl ?_
    refine pm_R_op pm_M195 (pc' := 64) (st' := [.int (-1)]) rfl rfl rfl ?_
    refine pm_R_ret pm_M195 (r := some (.int (-1))) rfl rfl ?_
    show pm_R _ 0 390 [.ref 0, .ref 16, .ref 41, .int 0] [.int (-1), .int (-1)] _ _
    refine pm_R_br pm_M0 (pc' := 2121) (st' := []) (pm_q0_2 (Nat.le_of_ble_eq_true rfl)) rfl ?_
    exact p1_tail (hh 0 (Nat.le_of_ble_eq_true rfl)) (Nat.le_of_ble_eq_true rfl) (Nat.le_of_ble_eq_true rfl) (Nat.le_of_ble_eq_true rfl)
  · refine pm_R_lo pm_M62 (pc' := 5) rfl rfl rfl ?_
    refine pm_R_lo pm_M62 (pc' := 6) rfl rfl rfl ?_
    refine pm_R_get pm_M62 (pc' := 9) (v := .ref 17) rfl rfl (hh 16 (Nat.le_of_ble_eq_true rfl)) (Nat.le_of_ble_eq_true rfl) (Nat.le_of_ble_eq_true rfl) rfl rfl ?_
    refine pm_R_get pm_M62 (pc' := 12) (v := .ref 23) rfl rfl (hh 17 (Nat.le_of_ble_eq_true rfl)) (Nat.le_of_ble_eq_true rfl) (Nat.le_of_ble_eq_true rfl) rfl rfl ?_
    refine pm_R_op pm_M62 (pc' := 13) (st' := [.int 0, .ref 23, .int x1]) rfl rfl rfl ?_
    refine pm_R_iald pm_M62 (pc' := 14) (v := 0) rfl (hh 23 (Nat.le_of_ble_eq_true rfl)) (Nat.le_of_ble_eq_true rfl) rfl rfl rfl ?_
    refine pm_R_icmp pm_M62 (t := 21) (pc' := 17) rfl rfl rfl (fun c_3 => by exact absurd c_3 c_1) (fun c_3 => ?_)
    refine pm_R_op pm_M62 (pc' := 18) (st' := [.null]) rfl rfl rfl ?_
    refine pm_R_br pm_M62 (pc' := 30) rfl rfl ?_
    refine pm_R_ret pm_M62 (r := some (.null)) rfl rfl ?_
    show pm_R _ 61 5 [.ref 16, .int x1, .int x2, pm_no] [.null] _ _
    refine pm_R_lo pm_M61 (pc' := 6) (ls' := [.ref 16, .int x1, .int x2, .null]) (st' := []) rfl rfl rfl ?_
    refine pm_R_lo pm_M61 (pc' := 7) rfl rfl rfl ?_
    refine pm_R_br pm_M61 (pc' := 10) rfl rfl ?_
    refine pm_R_op pm_M61 (pc' := 11) (st' := [.int (-1)]) rfl rfl rfl ?_
    refine pm_R_ret pm_M61 (r := some (.int (-1))) rfl rfl ?_
    show pm_R _ 0 376 [.ref 0, .ref 16, .ref 41, .int 0] [.int (-1)] _ _
    refine pm_R_lo pm_M0 (pc' := 377) (pm_q0_2 (Nat.le_of_ble_eq_true rfl)) rfl rfl ?_
    refine pm_R_lo pm_M0 (pc' := 378) (pm_q0_2 (Nat.le_of_ble_eq_true rfl)) rfl rfl ?_
    refine pm_R_lo pm_M0 (pc' := 379) (pm_q0_2 (Nat.le_of_ble_eq_true rfl)) rfl rfl ?_
    refine pm_R_op pm_M0 (pc' := 380) (st' := [.int 1, .int 0, .ref 0, .ref 41, .int (-1)]) (pm_q0_2 (Nat.le_of_ble_eq_true rfl)) rfl rfl ?_
    refine pm_R_op pm_M0 (pc' := 381) (st' := [.int 1, .ref 0, .ref 41, .int (-1)]) (pm_q0_2 (Nat.le_of_ble_eq_true rfl)) rfl rfl ?_
    refine pm_R_iald pm_M0 (pc' := 382) (v := x1) (pm_q0_2 (Nat.le_of_ble_eq_true rfl)) (hh 0 (Nat.le_of_ble_eq_true rfl)) (Nat.le_of_ble_eq_true rfl) rfl hx1 rfl ?_
    refine pm_R_lo pm_M0 (pc' := 383) (pm_q0_2 (Nat.le_of_ble_eq_true rfl)) rfl rfl ?_
    refine pm_R_lo pm_M0 (pc' := 384) (pm_q0_2 (Nat.le_of_ble_eq_true rfl)) rfl rfl ?_
    refine pm_R_op pm_M0 (pc' := 385) (st' := [.int 2, .int 0, .ref 0, .int x1, .ref 41, .int (-1)]) (pm_q0_2 (Nat.le_of_ble_eq_true rfl)) rfl rfl ?_
    refine pm_R_op pm_M0 (pc' := 386) (st' := [.int 2, .ref 0, .int x1, .ref 41, .int (-1)]) (pm_q0_2 (Nat.le_of_ble_eq_true rfl)) rfl rfl ?_
    refine pm_R_iald pm_M0 (pc' := 387) (v := x2) (pm_q0_2 (Nat.le_of_ble_eq_true rfl)) (hh 0 (Nat.le_of_ble_eq_true rfl)) (Nat.le_of_ble_eq_true rfl) rfl hx2 rfl ?_
    refine pm_R_cv pm_M0 (pc' := 390) (a := 41) (ra := [.int x2, .int x1]) (rest := [.int (-1)]) (ls' := [.ref 41, .int x1, .int x2]) (pm_q0_2 (Nat.le_of_ble_eq_true rfl)) rfl (Or.inl rfl) pm_M195 (hh 41 (Nat.le_of_ble_eq_true rfl)) rfl (Nat.le_of_ble_eq_true rfl) (Nat.le_of_ble_eq_true rfl) rfl rfl (Nat.le_of_ble_eq_true rfl) rfl rfl ?_
    refine pm_R_lo pm_M195 (pc' := 1) rfl rfl rfl ?_
    refine pm_R_op pm_M195 (pc' := 2) (st' := [.int 0, .ref 41]) rfl rfl rfl ?_
    refine pm_R_put pm_M195 (pc' := 5) (fs' := [.int 0, .ref 42, .ref 43, .ref 44, .ref 45, .ref 46, .ref 47, .ref 48, .ref 49, .ref 50, .int 0, .int 0, .int 0, .int 0, .int 0, .long 0, .int 0, .int 0, .int 0, .ref 51, .ref 52, .int 0, .int 0, .int 0, .int 0, .ref 53, .int 0, .int 0, .ref 54, .ref 55, .ref 56, .int 0, .ref 57, .ref 58, .ref 59, .ref 60, .ref 61, .ref 62, .ref 63, .ref 64, .ref 65, .ref 66, .int 0, .int 0, .int 0, .ref 67, .ref 68, .int 0, .ref 69, .int 0, .int 0, .ref 70, .ref 71]) rfl rfl rfl (hh 41 (Nat.le_of_ble_eq_true rfl)) (Nat.le_of_ble_eq_true rfl) (Nat.le_of_ble_eq_true rfl) (Nat.le_of_ble_eq_true rfl) rfl (Or.inl rfl) rfl rfl ?_
    refine pm_R_lo pm_M195 (pc' := 6) rfl rfl rfl ?_
    refine pm_R_op pm_M195 (pc' := 7) (st' := [.int 0, .ref 41]) rfl rfl rfl ?_
    refine pm_R_lo pm_M195 (pc' := 8) rfl rfl rfl ?_
    refine pm_R_cv pm_M195 (pc' := 11) (a := 41) (ra := [.int x1, .int 0]) (rest := []) (ls' := [.ref 41, .int 0, .int x1]) rfl rfl (Or.inl rfl) pm_M177 rfl rfl (Nat.le_of_ble_eq_true rfl) (Nat.le_of_ble_eq_true rfl) rfl rfl (Nat.le_of_ble_eq_true rfl) rfl rfl ?_
    refine pm_R_lo pm_M177 (pc' := 1) rfl rfl rfl ?_
    refine pm_R_op pm_M177 (pc' := 2) (st' := [.int 0, .int x1]) rfl rfl rfl ?_
    refine pm_R_lo pm_M177 (pc' := 3) rfl rfl rfl ?_
    refine pm_R_get pm_M177 (pc' := 6) (v := .ref 46) rfl rfl rfl (Nat.le_of_ble_eq_true rfl) (Nat.le_of_ble_eq_true rfl) rfl rfl ?_
    refine pm_R_lo pm_M177 (pc' := 7) rfl rfl rfl ?_
    refine pm_R_iald pm_M177 (pc' := 8) (v := 0) rfl (hh 46 (Nat.le_of_ble_eq_true rfl)) (Nat.le_of_ble_eq_true rfl) rfl rfl rfl ?_
    refine pm_R_op pm_M177 (pc' := 9) (st' := [.int 1, .int 0, .int 0, .int x1]) rfl rfl rfl ?_
    refine pm_R_op pm_M177 (pc' := 10) (st' := [.int (-1), .int 0, .int x1]) rfl rfl rfl ?_
    refine pm_R_cs pm_M177 (pc' := 13) (ra := [.int (-1), .int 0, .int x1]) (rest := []) (ls' := [.int x1, .int 0, .int (-1)]) rfl rfl (Or.inl rfl) pm_M174 rfl rfl (Nat.le_of_ble_eq_true rfl) rfl rfl ?_
    refine pm_R_lo pm_M174 (pc' := 1) rfl rfl rfl ?_
    refine pm_R_lo pm_M174 (pc' := 2) rfl rfl rfl ?_
    refine pm_R_icmp pm_M174 (t := 14) (pc' := 5) rfl rfl rfl (fun c_4 => by exact absurd c_4 c_1) (fun c_4 => ?_)
    refine pm_R_lo pm_M174 (pc' := 6) rfl rfl rfl ?_
    refine pm_R_lo pm_M174 (pc' := 7) rfl rfl rfl ?_
    refine pm_R_icmp pm_M174 (t := 14) (pc' := 10) rfl rfl rfl (fun c_5 => ?_) (fun c_5 => by have z0 : ((-1) : Int32).toInt = -1 := (by decide); have z1 : ((0) : Int32).toInt = 0 := (by decide); have q0 := (Int32.le_iff_toInt_le.mp (Int32.not_lt.mp c_1)); have q1 := (Int32.le_iff_toInt_le.mp (Int32.not_lt.mp c_5)); exfalso; omega)
    refine pm_R_op pm_M174 (pc' := 15) (st' := [.int 0]) rfl rfl rfl ?_
    refine pm_R_ret pm_M174 (r := some (.int 0)) rfl rfl ?_
    show pm_R _ 177 13 [.ref 41, .int 0, .int x1] [.int 0] _ _
    refine pm_R_ret pm_M177 (r := some (.int 0)) rfl rfl ?_
    show pm_R _ 195 11 [.ref 41, .int x1, .int x2] [.int 0] _ _
    refine pm_R_br pm_M195 (pc' := 63) (st' := []) rfl rfl ?_
    refine pm_R_op pm_M195 (pc' := 64) (st' := [.int (-1)]) rfl rfl rfl ?_
    refine pm_R_ret pm_M195 (r := some (.int (-1))) rfl rfl ?_
    show pm_R _ 0 390 [.ref 0, .ref 16, .ref 41, .int 0] [.int (-1), .int (-1)] _ _
    refine pm_R_br pm_M0 (pc' := 2121) (st' := []) (pm_q0_2 (Nat.le_of_ble_eq_true rfl)) rfl ?_
    exact p1_tail (hh 0 (Nat.le_of_ble_eq_true rfl)) (Nat.le_of_ble_eq_true rfl) (Nat.le_of_ble_eq_true rfl) (Nat.le_of_ble_eq_true rfl)
set_option maxRecDepth 100000 in
set_option maxHeartbeats 40000000 in
theorem p1_c5 (xs : Nat → Int32) (f : Nat → pm_E) (hh : ∀ i, i < 72 → f i = pm_fF 7 xs i) (x0 x1 x2 x3 x4 x5 x6 : Int32) (hx0 : xs 0 = x0) (hx1 : xs 1 = x1) (hx2 : xs 2 = x2) (hx3 : xs 3 = x3) (hx4 : xs 4 = x4) (hx5 : xs 5 = x5) (hx6 : xs 6 = x6) : pm_R 100 0 395 [.ref 0, .ref 16, .ref 41, .int 0] [] (72, 52657, f) p1_Q := by
  refine pm_R_lo pm_M0 (pc' := 396) (pm_q0_2 (Nat.le_of_ble_eq_true rfl)) rfl rfl ?_
  refine pm_R_lo pm_M0 (pc' := 397) (pm_q0_2 (Nat.le_of_ble_eq_true rfl)) rfl rfl ?_
  refine pm_R_lo pm_M0 (pc' := 398) (pm_q0_2 (Nat.le_of_ble_eq_true rfl)) rfl rfl ?_
  refine pm_R_op pm_M0 (pc' := 399) (st' := [.int 1, .int 0, .ref 0, .ref 16]) (pm_q0_2 (Nat.le_of_ble_eq_true rfl)) rfl rfl ?_
  refine pm_R_op pm_M0 (pc' := 400) (st' := [.int 1, .ref 0, .ref 16]) (pm_q0_2 (Nat.le_of_ble_eq_true rfl)) rfl rfl ?_
  refine pm_R_iald pm_M0 (pc' := 401) (v := x1) (pm_q0_2 (Nat.le_of_ble_eq_true rfl)) (hh 0 (Nat.le_of_ble_eq_true rfl)) (Nat.le_of_ble_eq_true rfl) rfl hx1 rfl ?_
  refine pm_R_lo pm_M0 (pc' := 402) (pm_q0_2 (Nat.le_of_ble_eq_true rfl)) rfl rfl ?_
  refine pm_R_lo pm_M0 (pc' := 403) (pm_q0_2 (Nat.le_of_ble_eq_true rfl)) rfl rfl ?_
  refine pm_R_op pm_M0 (pc' := 404) (st' := [.int 2, .int 0, .ref 0, .int x1, .ref 16]) (pm_q0_2 (Nat.le_of_ble_eq_true rfl)) rfl rfl ?_
  refine pm_R_op pm_M0 (pc' := 405) (st' := [.int 2, .ref 0, .int x1, .ref 16]) (pm_q0_2 (Nat.le_of_ble_eq_true rfl)) rfl rfl ?_
  refine pm_R_iald pm_M0 (pc' := 406) (v := x2) (pm_q0_2 (Nat.le_of_ble_eq_true rfl)) (hh 0 (Nat.le_of_ble_eq_true rfl)) (Nat.le_of_ble_eq_true rfl) rfl hx2 rfl ?_
  refine pm_R_lo pm_M0 (pc' := 407) (pm_q0_2 (Nat.le_of_ble_eq_true rfl)) rfl rfl ?_
  refine pm_R_lo pm_M0 (pc' := 408) (pm_q0_2 (Nat.le_of_ble_eq_true rfl)) rfl rfl ?_
  refine pm_R_op pm_M0 (pc' := 409) (st' := [.int 3, .int 0, .ref 0, .int x2, .int x1, .ref 16]) (pm_q0_3 (Nat.le_of_ble_eq_true rfl)) rfl rfl ?_
  refine pm_R_op pm_M0 (pc' := 410) (st' := [.int 3, .ref 0, .int x2, .int x1, .ref 16]) (pm_q0_3 (Nat.le_of_ble_eq_true rfl)) rfl rfl ?_
  refine pm_R_iald pm_M0 (pc' := 411) (v := x3) (pm_q0_3 (Nat.le_of_ble_eq_true rfl)) (hh 0 (Nat.le_of_ble_eq_true rfl)) (Nat.le_of_ble_eq_true rfl) rfl hx3 rfl ?_
  refine pm_R_cv pm_M0 (pc' := 414) (a := 16) (ra := [.int x3, .int x2, .int x1]) (rest := []) (ls' := [.ref 16, .int x1, .int x2, .int x3, pm_no]) (pm_q0_3 (Nat.le_of_ble_eq_true rfl)) rfl (Or.inl rfl) pm_M63 (hh 16 (Nat.le_of_ble_eq_true rfl)) rfl (Nat.le_of_ble_eq_true rfl) (Nat.le_of_ble_eq_true rfl) rfl rfl (Nat.le_of_ble_eq_true rfl) rfl rfl ?_
  refine pm_R_lo pm_M63 (pc' := 1) rfl rfl rfl ?_
  refine pm_R_lo pm_M63 (pc' := 2) rfl rfl rfl ?_
  refine pm_R_cv pm_M63 (pc' := 5) (a := 16) (ra := [.int x1]) (rest := []) (ls' := [.ref 16, .int x1]) rfl rfl (Or.inl rfl) pm_M62 (hh 16 (Nat.le_of_ble_eq_true rfl)) rfl (Nat.le_of_ble_eq_true rfl) (Nat.le_of_ble_eq_true rfl) rfl rfl (Nat.le_of_ble_eq_true rfl) rfl rfl ?_
  refine pm_R_lo pm_M62 (pc' := 1) rfl rfl rfl ?_
  refine pm_R_ifc pm_M62 (t := 17) (pc' := 4) rfl rfl rfl (fun c_1 => ?_) (fun c_1 => ?_)
  · refine pm_R_op pm_M62 (pc' := 18) (st' := [.null]) rfl rfl rfl ?_
    refine pm_R_br pm_M62 (pc' := 30) rfl rfl ?_
    refine pm_R_ret pm_M62 (r := some (.null)) rfl rfl ?_
    show pm_R _ 63 5 [.ref 16, .int x1, .int x2, .int x3, pm_no] [.null] _ _
    refine pm_R_lo pm_M63 (pc' := 7) (ls' := [.ref 16, .int x1, .int x2, .int x3, .null]) (st' := []) rfl rfl rfl ?_
    refine pm_R_lo pm_M63 (pc' := 9) rfl rfl rfl ?_
    refine pm_R_br pm_M63 (pc' := 34) rfl rfl ?_
    refine pm_R_op pm_M63 (pc' := 35) (st' := [.int (-1)]) rfl rfl rfl ?_
    refine pm_R_ret pm_M63 (r := some (.int (-1))) rfl rfl ?_
    show pm_R _ 0 414 [.ref 0, .ref 16, .ref 41, .int 0] [.int (-1)] _ _
    refine pm_R_lo pm_M0 (pc' := 415) (pm_q0_3 (Nat.le_of_ble_eq_true rfl)) rfl rfl ?_
    refine pm_R_lo pm_M0 (pc' := 416) (pm_q0_3 (Nat.le_of_ble_eq_true rfl)) rfl rfl ?_
    refine pm_R_lo pm_M0 (pc' := 417) (pm_q0_3 (Nat.le_of_ble_eq_true rfl)) rfl rfl ?_
    refine pm_R_op pm_M0 (pc' := 418) (st' := [.int 1, .int 0, .ref 0, .ref 41, .int (-1)]) (pm_q0_3 (Nat.le_of_ble_eq_true rfl)) rfl rfl ?_
    refine pm_R_op pm_M0 (pc' := 419) (st' := [.int 1, .ref 0, .ref 41, .int (-1)]) (pm_q0_3 (Nat.le_of_ble_eq_true rfl)) rfl rfl ?_
    refine pm_R_iald pm_M0 (pc' := 420) (v := x1) (pm_q0_3 (Nat.le_of_ble_eq_true rfl)) (hh 0 (Nat.le_of_ble_eq_true rfl)) (Nat.le_of_ble_eq_true rfl) rfl hx1 rfl ?_
    refine pm_R_lo pm_M0 (pc' := 421) (pm_q0_3 (Nat.le_of_ble_eq_true rfl)) rfl rfl ?_
    refine pm_R_lo pm_M0 (pc' := 422) (pm_q0_3 (Nat.le_of_ble_eq_true rfl)) rfl rfl ?_
    refine pm_R_op pm_M0 (pc' := 423) (st' := [.int 2, .int 0, .ref 0, .int x1, .ref 41, .int (-1)]) (pm_q0_3 (Nat.le_of_ble_eq_true rfl)) rfl rfl ?_
    refine pm_R_op pm_M0 (pc' := 424) (st' := [.int 2, .ref 0, .int x1, .ref 41, .int (-1)]) (pm_q0_3 (Nat.le_of_ble_eq_true rfl)) rfl rfl ?_
    refine pm_R_iald pm_M0 (pc' := 425) (v := x2) (pm_q0_3 (Nat.le_of_ble_eq_true rfl)) (hh 0 (Nat.le_of_ble_eq_true rfl)) (Nat.le_of_ble_eq_true rfl) rfl hx2 rfl ?_
    refine pm_R_lo pm_M0 (pc' := 426) (pm_q0_3 (Nat.le_of_ble_eq_true rfl)) rfl rfl ?_
    refine pm_R_lo pm_M0 (pc' := 427) (pm_q0_3 (Nat.le_of_ble_eq_true rfl)) rfl rfl ?_
    refine pm_R_op pm_M0 (pc' := 428) (st' := [.int 3, .int 0, .ref 0, .int x2, .int x1, .ref 41, .int (-1)]) (pm_q0_3 (Nat.le_of_ble_eq_true rfl)) rfl rfl ?_
    refine pm_R_op pm_M0 (pc' := 429) (st' := [.int 3, .ref 0, .int x2, .int x1, .ref 41, .int (-1)]) (pm_q0_3 (Nat.le_of_ble_eq_true rfl)) rfl rfl ?_
    refine pm_R_iald pm_M0 (pc' := 430) (v := x3) (pm_q0_3 (Nat.le_of_ble_eq_true rfl)) (hh 0 (Nat.le_of_ble_eq_true rfl)) (Nat.le_of_ble_eq_true rfl) rfl hx3 rfl ?_
    refine pm_R_cv pm_M0 (pc' := 433) (a := 41) (ra := [.int x3, .int x2, .int x1]) (rest := [.int (-1)]) (ls' := [.ref 41, .int x1, .int x2, .int x3]) (pm_q0_3 (Nat.le_of_ble_eq_true rfl)) rfl (Or.inl rfl) pm_M196 (hh 41 (Nat.le_of_ble_eq_true rfl)) rfl (Nat.le_of_ble_eq_true rfl) (Nat.le_of_ble_eq_true rfl) rfl rfl (Nat.le_of_ble_eq_true rfl) rfl rfl ?_
    refine pm_R_lo pm_M196 (pc' := 1) rfl rfl rfl ?_
    refine pm_R_op pm_M196 (pc' := 2) (st' := [.int 0, .ref 41]) rfl rfl rfl ?_
    refine pm_R_put pm_M196 (pc' := 5) (fs' := [.int 0, .ref 42, .ref 43, .ref 44, .ref 45, .ref 46, .ref 47, .ref 48, .ref 49, .ref 50, .int 0, .int 0, .int 0, .int 0, .int 0, .long 0, .int 0, .int 0, .int 0, .ref 51, .ref 52, .int 0, .int 0, .int 0, .int 0, .ref 53, .int 0, .int 0, .ref 54, .ref 55, .ref 56, .int 0, .ref 57, .ref 58, .ref 59, .ref 60, .ref 61, .ref 62, .ref 63, .ref 64, .ref 65, .ref 66, .int 0, .int 0, .int 0, .ref 67, .ref 68, .int 0, .ref 69, .int 0, .int 0, .ref 70, .ref 71]) rfl rfl rfl (hh 41 (Nat.le_of_ble_eq_true rfl)) (Nat.le_of_ble_eq_true rfl) (Nat.le_of_ble_eq_true rfl) (Nat.le_of_ble_eq_true rfl) rfl (Or.inl rfl) rfl rfl ?_
    refine pm_R_lo pm_M196 (pc' := 6) rfl rfl rfl ?_
    refine pm_R_op pm_M196 (pc' := 7) (st' := [.int 0, .ref 41]) rfl rfl rfl ?_
    refine pm_R_lo pm_M196 (pc' := 8) rfl rfl rfl ?_
    refine pm_R_cv pm_M196 (pc' := 11) (a := 41) (ra := [.int x1, .int 0]) (rest := []) (ls' := [.ref 41, .int 0, .int x1]) rfl rfl (Or.inl rfl) pm_M177 rfl rfl (Nat.le_of_ble_eq_true rfl) (Nat.le_of_ble_eq_true rfl) rfl rfl (Nat.le_of_ble_eq_true rfl) rfl rfl ?_
    refine pm_R_lo pm_M177 (pc' := 1) rfl rfl rfl ?_
    refine pm_R_op pm_M177 (pc' := 2) (st' := [.int 0, .int x1]) rfl rfl rfl ?_
    refine pm_R_lo pm_M177 (pc' := 3) rfl rfl rfl ?_
    refine pm_R_get pm_M177 (pc' := 6) (v := .ref 46) rfl rfl rfl (Nat.le_of_ble_eq_true rfl) (Nat.le_of_ble_eq_true rfl) rfl rfl ?_
    refine pm_R_lo pm_M177 (pc' := 7) rfl rfl rfl ?_
    refine pm_R_iald pm_M177 (pc' := 8) (v := 0) rfl (hh 46 (Nat.le_of_ble_eq_true rfl)) (Nat.le_of_ble_eq_true rfl) rfl rfl rfl ?_
    refine pm_R_op pm_M177 (pc' := 9) (st' := [.int 1, .int 0, .int 0, .int x1]) rfl rfl rfl ?_
    refine pm_R_op pm_M177 (pc' := 10) (st' := [.int (-1), .int 0, .int x1]) rfl rfl rfl ?_
    refine pm_R_cs pm_M177 (pc' := 13) (ra := [.int (-1), .int 0, .int x1]) (rest := []) (ls' := [.int x1, .int 0, .int (-1)]) rfl rfl (Or.inl rfl) pm_M174 rfl rfl (Nat.le_of_ble_eq_true rfl) rfl rfl ?_
    refine pm_R_lo pm_M174 (pc' := 1) rfl rfl rfl ?_
    refine pm_R_lo pm_M174 (pc' := 2) rfl rfl rfl ?_
    refine pm_R_icmp pm_M174 (t := 14) (pc' := 5) rfl rfl rfl (fun c_2 => ?_) (fun c_2 => by exact absurd c_1 c_2)
    refine pm_R_op pm_M174 (pc' := 15) (st' := [.int 0]) rfl rfl rfl ?_
    refine pm_R_ret pm_M174 (r := some (.int 0)) rfl rfl ?_
    show pm_R _ 177 13 [.ref 41, .int 0, .int x1] [.int 0] _ _
    refine pm_R_ret pm_M177 (r := some (.int 0)) rfl rfl ?_
    show pm_R _ 196 11 [.ref 41, .int x1, .int x2, .int x3] [.int 0] _ _
    refine pm_R_br pm_M196 (pc' := 62) (st' := []) rfl rfl ?_
    refine pm_R_op pm_M196 (pc' := 63) (st' := [.int (-1)]) rfl rfl rfl ?_
    refine pm_R_ret pm_M196 (r := some (.int (-1))) rfl rfl ?_
    show pm_R _ 0 433 [.ref 0, .ref 16, .ref 41, .int 0] [.int (-1), .int (-1)] _ _
    refine pm_R_br pm_M0 (pc' := 2121) (st' := []) (pm_q0_3 (Nat.le_of_ble_eq_true rfl)) rfl ?_
    exact p1_tail (hh 0 (Nat.le_of_ble_eq_true rfl)) (Nat.le_of_ble_eq_true rfl) (Nat.le_of_ble_eq_true rfl) (Nat.le_of_ble_eq_true rfl)
  · refine pm_R_lo pm_M62 (pc' := 5) rfl rfl rfl ?_
    refine pm_R_lo pm_M62 (pc' := 6) rfl rfl rfl ?_
    refine pm_R_get pm_M62 (pc' := 9) (v := .ref 17) rfl rfl (hh 16 (Nat.le_of_ble_eq_true rfl)) (Nat.le_of_ble_eq_true rfl) (Nat.le_of_ble_eq_true rfl) rfl rfl ?_
    refine pm_R_get pm_M62 (pc' := 12) (v := .ref 23) rfl rfl (hh 17 (Nat.le_of_ble_eq_true rfl)) (Nat.le_of_ble_eq_true rfl) (Nat.le_of_ble_eq_true rfl) rfl rfl ?_
    refine pm_R_op pm_M62 (pc' := 13) (st' := [.int 0, .ref 23, .int x1]) rfl rfl rfl ?_
    refine pm_R_iald pm_M62 (pc' := 14) (v := 0) rfl (hh 23 (Nat.le_of_ble_eq_true rfl)) (Nat.le_of_ble_eq_true rfl) rfl rfl rfl ?_
    refine pm_R_icmp pm_M62 (t := 21) (pc' := 17) rfl rfl rfl (fun c_3 => by exact absurd c_3 c_1) (fun c_3 => ?_)
    refine pm_R_op pm_M62 (pc' := 18) (st' := [.null]) rfl rfl rfl ?_
    refine pm_R_br pm_M62 (pc' := 30) rfl rfl ?_
    refine pm_R_ret pm_M62 (r := some (.null)) rfl rfl ?_
    show pm_R _ 63 5 [.ref 16, .int x1, .int x2, .int x3, pm_no] [.null] _ _
    refine pm_R_lo pm_M63 (pc' := 7) (ls' := [.ref 16, .int x1, .int x2, .int x3, .null]) (st' := []) rfl rfl rfl ?_
    refine pm_R_lo pm_M63 (pc' := 9) rfl rfl rfl ?_
    refine pm_R_br pm_M63 (pc' := 34) rfl rfl ?_
    refine pm_R_op pm_M63 (pc' := 35) (st' := [.int (-1)]) rfl rfl rfl ?_
    refine pm_R_ret pm_M63 (r := some (.int (-1))) rfl rfl ?_
    show pm_R _ 0 414 [.ref 0, .ref 16, .ref 41, .int 0] [.int (-1)] _ _
    refine pm_R_lo pm_M0 (pc' := 415) (pm_q0_3 (Nat.le_of_ble_eq_true rfl)) rfl rfl ?_
    refine pm_R_lo pm_M0 (pc' := 416) (pm_q0_3 (Nat.le_of_ble_eq_true rfl)) rfl rfl ?_
    refine pm_R_lo pm_M0 (pc' := 417) (pm_q0_3 (Nat.le_of_ble_eq_true rfl)) rfl rfl ?_
    refine pm_R_op pm_M0 (pc' := 418) (st' := [.int 1, .int 0, .ref 0, .ref 41, .int (-1)]) (pm_q0_3 (Nat.le_of_ble_eq_true rfl)) rfl rfl ?_
    refine pm_R_op pm_M0 (pc' := 419) (st' := [.int 1, .ref 0, .ref 41, .int (-1)]) (pm_q0_3 (Nat.le_of_ble_eq_true rfl)) rfl rfl ?_
    refine pm_R_iald pm_M0 (pc' := 420) (v := x1) (pm_q0_3 (Nat.le_of_ble_eq_true rfl)) (hh 0 (Nat.le_of_ble_eq_true rfl)) (Nat.le_of_ble_eq_true rfl) rfl hx1 rfl ?_
    refine pm_R_lo pm_M0 (pc' := 421) (pm_q0_3 (Nat.le_of_ble_eq_true rfl)) rfl rfl ?_
    refine pm_R_lo pm_M0 (pc' := 422) (pm_q0_3 (Nat.le_of_ble_eq_true rfl)) rfl rfl ?_
    refine pm_R_op pm_M0 (pc' := 423) (st' := [.int 2, .int 0, .ref 0, .int x1, .ref 41, .int (-1)]) (pm_q0_3 (Nat.le_of_ble_eq_true rfl)) rfl rfl ?_
    refine pm_R_op pm_M0 (pc' := 424) (st' := [.int 2, .ref 0, .int x1, .ref 41, .int (-1)]) (pm_q0_3 (Nat.le_of_ble_eq_true rfl)) rfl rfl ?_
    refine pm_R_iald pm_M0 (pc' := 425) (v := x2) (pm_q0_3 (Nat.le_of_ble_eq_true rfl)) (hh 0 (Nat.le_of_ble_eq_true rfl)) (Nat.le_of_ble_eq_true rfl) rfl hx2 rfl ?_
    refine pm_R_lo pm_M0 (pc' := 426) (pm_q0_3 (Nat.le_of_ble_eq_true rfl)) rfl rfl ?_
    refine pm_R_lo pm_M0 (pc' := 427) (pm_q0_3 (Nat.le_of_ble_eq_true rfl)) rfl rfl ?_
    refine pm_R_op pm_M0 (pc' := 428) (st' := [.int 3, .int 0, .ref 0, .int x2, .int x1, .ref 41, .int (-1)]) (pm_q0_3 (Nat.le_of_ble_eq_true rfl)) rfl rfl ?_
    refine pm_R_op pm_M0 (pc' := 429) (st' := [.int 3, .ref 0, .int x2, .int x1, .ref 41, .int (-1)]) (pm_q0_3 (Nat.le_of_ble_eq_true rfl)) rfl rfl ?_
    refine pm_R_iald pm_M0 (pc' := 430) (v := x3) (pm_q0_3 (Nat.le_of_ble_eq_true rfl)) (hh 0 (Nat.le_of_ble_eq_true rfl)) (Nat.le_of_ble_eq_true rfl) rfl hx3 rfl ?_
    refine pm_R_cv pm_M0 (pc' := 433) (a := 41) (ra := [.int x3, .int x2, .int x1]) (rest := [.int (-1)]) (ls' := [.ref 41, .int x1, .int x2, .int x3]) (pm_q0_3 (Nat.le_of_ble_eq_true rfl)) rfl (Or.inl rfl) pm_M196 (hh 41 (Nat.le_of_ble_eq_true rfl)) rfl (Nat.le_of_ble_eq_true rfl) (Nat.le_of_ble_eq_true rfl) rfl rfl (Nat.le_of_ble_eq_true rfl) rfl rfl ?_
    refine pm_R_lo pm_M196 (pc' := 1) rfl rfl rfl ?_
    refine pm_R_op pm_M196 (pc' := 2) (st' := [.int 0, .ref 41]) rfl rfl rfl ?_
    refine pm_R_put pm_M196 (pc' := 5) (fs' := [.int 0, .ref 42, .ref 43, .ref 44, .ref 45, .ref 46, .ref 47, .ref 48, .ref 49, .ref 50, .int 0, .int 0, .int 0, .int 0, .int 0, .long 0, .int 0, .int 0, .int 0, .ref 51, .ref 52, .int 0, .int 0, .int 0, .int 0, .ref 53, .int 0, .int 0, .ref 54, .ref 55, .ref 56, .int 0, .ref 57, .ref 58, .ref 59, .ref 60, .ref 61, .ref 62, .ref 63, .ref 64, .ref 65, .ref 66, .int 0, .int 0, .int 0, .ref 67, .ref 68, .int 0, .ref 69, .int 0, .int 0, .ref 70, .ref 71]) rfl rfl rfl (hh 41 (Nat.le_of_ble_eq_true rfl)) (Nat.le_of_ble_eq_true rfl) (Nat.le_of_ble_eq_true rfl) (Nat.le_of_ble_eq_true rfl) rfl (Or.inl rfl) rfl rfl ?_
    refine pm_R_lo pm_M196 (pc' := 6) rfl rfl rfl ?_
    refine pm_R_op pm_M196 (pc' := 7) (st' := [.int 0, .ref 41]) rfl rfl rfl ?_
    refine pm_R_lo pm_M196 (pc' := 8) rfl rfl rfl ?_
    refine pm_R_cv pm_M196 (pc' := 11) (a := 41) (ra := [.int x1, .int 0]) (rest := []) (ls' := [.ref 41, .int 0, .int x1]) rfl rfl (Or.inl rfl) pm_M177 rfl rfl (Nat.le_of_ble_eq_true rfl) (Nat.le_of_ble_eq_true rfl) rfl rfl (Nat.le_of_ble_eq_true rfl) rfl rfl ?_
    refine pm_R_lo pm_M177 (pc' := 1) rfl rfl rfl ?_
    refine pm_R_op pm_M177 (pc' := 2) (st' := [.int 0, .int x1]) rfl rfl rfl ?_
    refine pm_R_lo pm_M177 (pc' := 3) rfl rfl rfl ?_
    refine pm_R_get pm_M177 (pc' := 6) (v := .ref 46) rfl rfl rfl (Nat.le_of_ble_eq_true rfl) (Nat.le_of_ble_eq_true rfl) rfl rfl ?_
    refine pm_R_lo pm_M177 (pc' := 7) rfl rfl rfl ?_
    refine pm_R_iald pm_M177 (pc' := 8) (v := 0) rfl (hh 46 (Nat.le_of_ble_eq_true rfl)) (Nat.le_of_ble_eq_true rfl) rfl rfl rfl ?_
    refine pm_R_op pm_M177 (pc' := 9) (st' := [.int 1, .int 0, .int 0, .int x1]) rfl rfl rfl ?_
    refine pm_R_op pm_M177 (pc' := 10) (st' := [.int (-1), .int 0, .int x1]) rfl rfl rfl ?_
    refine pm_R_cs pm_M177 (pc' := 13) (ra := [.int (-1), .int 0, .int x1]) (rest := []) (ls' := [.int x1, .int 0, .int (-1)]) rfl rfl (Or.inl rfl) pm_M174 rfl rfl (Nat.le_of_ble_eq_true rfl) rfl rfl ?_
    refine pm_R_lo pm_M174 (pc' := 1) rfl rfl rfl ?_
    refine pm_R_lo pm_M174 (pc' := 2) rfl rfl rfl ?_
    refine pm_R_icmp pm_M174 (t := 14) (pc' := 5) rfl rfl rfl (fun c_4 => by exact absurd c_4 c_1) (fun c_4 => ?_)
    refine pm_R_lo pm_M174 (pc' := 6) rfl rfl rfl ?_
    refine pm_R_lo pm_M174 (pc' := 7) rfl rfl rfl ?_
    refine pm_R_icmp pm_M174 (t := 14) (pc' := 10) rfl rfl rfl (fun c_5 => ?_) (fun c_5 => by have z0 : ((-1) : Int32).toInt = -1 := (by decide); have z1 : ((0) : Int32).toInt = 0 := (by decide); have q0 := (Int32.le_iff_toInt_le.mp (Int32.not_lt.mp c_1)); have q1 := (Int32.le_iff_toInt_le.mp (Int32.not_lt.mp c_5)); exfalso; omega)
    refine pm_R_op pm_M174 (pc' := 15) (st' := [.int 0]) rfl rfl rfl ?_
    refine pm_R_ret pm_M174 (r := some (.int 0)) rfl rfl ?_
    show pm_R _ 177 13 [.ref 41, .int 0, .int x1] [.int 0] _ _
    refine pm_R_ret pm_M177 (r := some (.int 0)) rfl rfl ?_
    show pm_R _ 196 11 [.ref 41, .int x1, .int x2, .int x3] [.int 0] _ _
    refine pm_R_br pm_M196 (pc' := 62) (st' := []) rfl rfl ?_
    refine pm_R_op pm_M196 (pc' := 63) (st' := [.int (-1)]) rfl rfl rfl ?_
    refine pm_R_ret pm_M196 (r := some (.int (-1))) rfl rfl ?_
    show pm_R _ 0 433 [.ref 0, .ref 16, .ref 41, .int 0] [.int (-1), .int (-1)] _ _
    refine pm_R_br pm_M0 (pc' := 2121) (st' := []) (pm_q0_3 (Nat.le_of_ble_eq_true rfl)) rfl ?_
    exact p1_tail (hh 0 (Nat.le_of_ble_eq_true rfl)) (Nat.le_of_ble_eq_true rfl) (Nat.le_of_ble_eq_true rfl) (Nat.le_of_ble_eq_true rfl)
set_option maxRecDepth 100000 in
set_option maxHeartbeats 40000000 in
theorem p1_c6 (xs : Nat → Int32) (f : Nat → pm_E) (hh : ∀ i, i < 72 → f i = pm_fF 7 xs i) (x0 x1 x2 x3 x4 x5 x6 : Int32) (hx0 : xs 0 = x0) (hx1 : xs 1 = x1) (hx2 : xs 2 = x2) (hx3 : xs 3 = x3) (hx4 : xs 4 = x4) (hx5 : xs 5 = x5) (hx6 : xs 6 = x6) : pm_R 100 0 438 [.ref 0, .ref 16, .ref 41, .int 0] [] (72, 52657, f) p1_Q := by
  refine pm_R_lo pm_M0 (pc' := 439) (pm_q0_3 (Nat.le_of_ble_eq_true rfl)) rfl rfl ?_
  refine pm_R_lo pm_M0 (pc' := 440) (pm_q0_3 (Nat.le_of_ble_eq_true rfl)) rfl rfl ?_
  refine pm_R_lo pm_M0 (pc' := 441) (pm_q0_3 (Nat.le_of_ble_eq_true rfl)) rfl rfl ?_
  refine pm_R_op pm_M0 (pc' := 442) (st' := [.int 1, .int 0, .ref 0, .ref 16]) (pm_q0_3 (Nat.le_of_ble_eq_true rfl)) rfl rfl ?_
  refine pm_R_op pm_M0 (pc' := 443) (st' := [.int 1, .ref 0, .ref 16]) (pm_q0_3 (Nat.le_of_ble_eq_true rfl)) rfl rfl ?_
  refine pm_R_iald pm_M0 (pc' := 444) (v := x1) (pm_q0_3 (Nat.le_of_ble_eq_true rfl)) (hh 0 (Nat.le_of_ble_eq_true rfl)) (Nat.le_of_ble_eq_true rfl) rfl hx1 rfl ?_
  refine pm_R_lo pm_M0 (pc' := 445) (pm_q0_3 (Nat.le_of_ble_eq_true rfl)) rfl rfl ?_
  refine pm_R_lo pm_M0 (pc' := 446) (pm_q0_3 (Nat.le_of_ble_eq_true rfl)) rfl rfl ?_
  refine pm_R_op pm_M0 (pc' := 447) (st' := [.int 2, .int 0, .ref 0, .int x1, .ref 16]) (pm_q0_3 (Nat.le_of_ble_eq_true rfl)) rfl rfl ?_
  refine pm_R_op pm_M0 (pc' := 448) (st' := [.int 2, .ref 0, .int x1, .ref 16]) (pm_q0_3 (Nat.le_of_ble_eq_true rfl)) rfl rfl ?_
  refine pm_R_iald pm_M0 (pc' := 449) (v := x2) (pm_q0_3 (Nat.le_of_ble_eq_true rfl)) (hh 0 (Nat.le_of_ble_eq_true rfl)) (Nat.le_of_ble_eq_true rfl) rfl hx2 rfl ?_
  refine pm_R_lo pm_M0 (pc' := 450) (pm_q0_3 (Nat.le_of_ble_eq_true rfl)) rfl rfl ?_
  refine pm_R_lo pm_M0 (pc' := 451) (pm_q0_3 (Nat.le_of_ble_eq_true rfl)) rfl rfl ?_
  refine pm_R_op pm_M0 (pc' := 452) (st' := [.int 3, .int 0, .ref 0, .int x2, .int x1, .ref 16]) (pm_q0_3 (Nat.le_of_ble_eq_true rfl)) rfl rfl ?_
  refine pm_R_op pm_M0 (pc' := 453) (st' := [.int 3, .ref 0, .int x2, .int x1, .ref 16]) (pm_q0_3 (Nat.le_of_ble_eq_true rfl)) rfl rfl ?_
  refine pm_R_iald pm_M0 (pc' := 454) (v := x3) (pm_q0_3 (Nat.le_of_ble_eq_true rfl)) (hh 0 (Nat.le_of_ble_eq_true rfl)) (Nat.le_of_ble_eq_true rfl) rfl hx3 rfl ?_
  refine pm_R_cv pm_M0 (pc' := 457) (a := 16) (ra := [.int x3, .int x2, .int x1]) (rest := []) (ls' := [.ref 16, .int x1, .int x2, .int x3, pm_no]) (pm_q0_3 (Nat.le_of_ble_eq_true rfl)) rfl (Or.inl rfl) pm_M64 (hh 16 (Nat.le_of_ble_eq_true rfl)) rfl (Nat.le_of_ble_eq_true rfl) (Nat.le_of_ble_eq_true rfl) rfl rfl (Nat.le_of_ble_eq_true rfl) rfl rfl ?_
  refine pm_R_lo pm_M64 (pc' := 1) rfl rfl rfl ?_
  refine pm_R_lo pm_M64 (pc' := 2) rfl rfl rfl ?_
  refine pm_R_cv pm_M64 (pc' := 5) (a := 16) (ra := [.int x1]) (rest := []) (ls' := [.ref 16, .int x1]) rfl rfl (Or.inl rfl) pm_M62 (hh 16 (Nat.le_of_ble_eq_true rfl)) rfl (Nat.le_of_ble_eq_true rfl) (Nat.le_of_ble_eq_true rfl) rfl rfl (Nat.le_of_ble_eq_true rfl) rfl rfl ?_
  refine pm_R_lo pm_M62 (pc' := 1) rfl rfl rfl ?_
  refine pm_R_ifc pm_M62 (t := 17) (pc' := 4) rfl rfl rfl (fun c_1 => ?_) (fun c_1 => ?_)
  · refine pm_R_op pm_M62 (pc' := 18) (st' := [.null]) rfl rfl rfl ?_
    refine pm_R_br pm_M62 (pc' := 30) rfl rfl ?_
    refine pm_R_ret pm_M62 (r := some (.null)) rfl rfl ?_
    show pm_R _ 64 5 [.ref 16, .int x1, .int x2, .int x3, pm_no] [.null] _ _
    refine pm_R_lo pm_M64 (pc' := 7) (ls' := [.ref 16, .int x1, .int x2, .int x3, .null]) (st' := []) rfl rfl rfl ?_
    refine pm_R_lo pm_M64 (pc' := 9) rfl rfl rfl ?_
    refine pm_R_br pm_M64 (pc' := 34) rfl rfl ?_
    refine pm_R_op pm_M64 (pc' := 35) (st' := [.int (-1)]) rfl rfl rfl ?_
    refine pm_R_ret pm_M64 (r := some (.int (-1))) rfl rfl ?_
    show pm_R _ 0 457 [.ref 0, .ref 16, .ref 41, .int 0] [.int (-1)] _ _
    refine pm_R_lo pm_M0 (pc' := 458) (pm_q0_3 (Nat.le_of_ble_eq_true rfl)) rfl rfl ?_
    refine pm_R_lo pm_M0 (pc' := 459) (pm_q0_3 (Nat.le_of_ble_eq_true rfl)) rfl rfl ?_
    refine pm_R_lo pm_M0 (pc' := 460) (pm_q0_3 (Nat.le_of_ble_eq_true rfl)) rfl rfl ?_
    refine pm_R_op pm_M0 (pc' := 461) (st' := [.int 1, .int 0, .ref 0, .ref 41, .int (-1)]) (pm_q0_3 (Nat.le_of_ble_eq_true rfl)) rfl rfl ?_
    refine pm_R_op pm_M0 (pc' := 462) (st' := [.int 1, .ref 0, .ref 41, .int (-1)]) (pm_q0_3 (Nat.le_of_ble_eq_true rfl)) rfl rfl ?_
    refine pm_R_iald pm_M0 (pc' := 463) (v := x1) (pm_q0_3 (Nat.le_of_ble_eq_true rfl)) (hh 0 (Nat.le_of_ble_eq_true rfl)) (Nat.le_of_ble_eq_true rfl) rfl hx1 rfl ?_
    refine pm_R_lo pm_M0 (pc' := 464) (pm_q0_3 (Nat.le_of_ble_eq_true rfl)) rfl rfl ?_
    refine pm_R_lo pm_M0 (pc' := 465) (pm_q0_3 (Nat.le_of_ble_eq_true rfl)) rfl rfl ?_
    refine pm_R_op pm_M0 (pc' := 466) (st' := [.int 2, .int 0, .ref 0, .int x1, .ref 41, .int (-1)]) (pm_q0_3 (Nat.le_of_ble_eq_true rfl)) rfl rfl ?_
    refine pm_R_op pm_M0 (pc' := 467) (st' := [.int 2, .ref 0, .int x1, .ref 41, .int (-1)]) (pm_q0_3 (Nat.le_of_ble_eq_true rfl)) rfl rfl ?_
    refine pm_R_iald pm_M0 (pc' := 468) (v := x2) (pm_q0_3 (Nat.le_of_ble_eq_true rfl)) (hh 0 (Nat.le_of_ble_eq_true rfl)) (Nat.le_of_ble_eq_true rfl) rfl hx2 rfl ?_
    refine pm_R_lo pm_M0 (pc' := 469) (pm_q0_3 (Nat.le_of_ble_eq_true rfl)) rfl rfl ?_
    refine pm_R_lo pm_M0 (pc' := 470) (pm_q0_3 (Nat.le_of_ble_eq_true rfl)) rfl rfl ?_
    refine pm_R_op pm_M0 (pc' := 471) (st' := [.int 3, .int 0, .ref 0, .int x2, .int x1, .ref 41, .int (-1)]) (pm_q0_3 (Nat.le_of_ble_eq_true rfl)) rfl rfl ?_
    refine pm_R_op pm_M0 (pc' := 472) (st' := [.int 3, .ref 0, .int x2, .int x1, .ref 41, .int (-1)]) (pm_q0_3 (Nat.le_of_ble_eq_true rfl)) rfl rfl ?_
    refine pm_R_iald pm_M0 (pc' := 473) (v := x3) (pm_q0_3 (Nat.le_of_ble_eq_true rfl)) (hh 0 (Nat.le_of_ble_eq_true rfl)) (Nat.le_of_ble_eq_true rfl) rfl hx3 rfl ?_
    refine pm_R_cv pm_M0 (pc' := 476) (a := 41) (ra := [.int x3, .int x2, .int x1]) (rest := [.int (-1)]) (ls' := [.ref 41, .int x1, .int x2, .int x3]) (pm_q0_3 (Nat.le_of_ble_eq_true rfl)) rfl (Or.inl rfl) pm_M197 (hh 41 (Nat.le_of_ble_eq_true rfl)) rfl (Nat.le_of_ble_eq_true rfl) (Nat.le_of_ble_eq_true rfl) rfl rfl (Nat.le_of_ble_eq_true rfl) rfl rfl ?_
    refine pm_R_lo pm_M197 (pc' := 1) rfl rfl rfl ?_
    refine pm_R_op pm_M197 (pc' := 2) (st' := [.int 0, .ref 41]) rfl rfl rfl ?_
    refine pm_R_put pm_M197 (pc' := 5) (fs' := [.int 0, .ref 42, .ref 43, .ref 44, .ref 45, .ref 46, .ref 47, .ref 48, .ref 49, .ref 50, .int 0, .int 0, .int 0, .int 0, .int 0, .long 0, .int 0, .int 0, .int 0, .ref 51, .ref 52, .int 0, .int 0, .int 0, .int 0, .ref 53, .int 0, .int 0, .ref 54, .ref 55, .ref 56, .int 0, .ref 57, .ref 58, .ref 59, .ref 60, .ref 61, .ref 62, .ref 63, .ref 64, .ref 65, .ref 66, .int 0, .int 0, .int 0, .ref 67, .ref 68, .int 0, .ref 69, .int 0, .int 0, .ref 70, .ref 71]) rfl rfl rfl (hh 41 (Nat.le_of_ble_eq_true rfl)) (Nat.le_of_ble_eq_true rfl) (Nat.le_of_ble_eq_true rfl) (Nat.le_of_ble_eq_true rfl) rfl (Or.inl rfl) rfl rfl ?_
    refine pm_R_lo pm_M197 (pc' := 6) rfl rfl rfl ?_
    refine pm_R_op pm_M197 (pc' := 7) (st' := [.int 0, .ref 41]) rfl rfl rfl ?_
    refine pm_R_lo pm_M197 (pc' := 8) rfl rfl rfl ?_
    refine pm_R_cv pm_M197 (pc' := 11) (a := 41) (ra := [.int x1, .int 0]) (rest := []) (ls' := [.ref 41, .int 0, .int x1]) rfl rfl (Or.inl rfl) pm_M177 rfl rfl (Nat.le_of_ble_eq_true rfl) (Nat.le_of_ble_eq_true rfl) rfl rfl (Nat.le_of_ble_eq_true rfl) rfl rfl ?_
    refine pm_R_lo pm_M177 (pc' := 1) rfl rfl rfl ?_
    refine pm_R_op pm_M177 (pc' := 2) (st' := [.int 0, .int x1]) rfl rfl rfl ?_
    refine pm_R_lo pm_M177 (pc' := 3) rfl rfl rfl ?_
    refine pm_R_get pm_M177 (pc' := 6) (v := .ref 46) rfl rfl rfl (Nat.le_of_ble_eq_true rfl) (Nat.le_of_ble_eq_true rfl) rfl rfl ?_
    refine pm_R_lo pm_M177 (pc' := 7) rfl rfl rfl ?_
    refine pm_R_iald pm_M177 (pc' := 8) (v := 0) rfl (hh 46 (Nat.le_of_ble_eq_true rfl)) (Nat.le_of_ble_eq_true rfl) rfl rfl rfl ?_
    refine pm_R_op pm_M177 (pc' := 9) (st' := [.int 1, .int 0, .int 0, .int x1]) rfl rfl rfl ?_
    refine pm_R_op pm_M177 (pc' := 10) (st' := [.int (-1), .int 0, .int x1]) rfl rfl rfl ?_
    refine pm_R_cs pm_M177 (pc' := 13) (ra := [.int (-1), .int 0, .int x1]) (rest := []) (ls' := [.int x1, .int 0, .int (-1)]) rfl rfl (Or.inl rfl) pm_M174 rfl rfl (Nat.le_of_ble_eq_true rfl) rfl rfl ?_
    refine pm_R_lo pm_M174 (pc' := 1) rfl rfl rfl ?_
    refine pm_R_lo pm_M174 (pc' := 2) rfl rfl rfl ?_
    refine pm_R_icmp pm_M174 (t := 14) (pc' := 5) rfl rfl rfl (fun c_2 => ?_) (fun c_2 => by exact absurd c_1 c_2)
    refine pm_R_op pm_M174 (pc' := 15) (st' := [.int 0]) rfl rfl rfl ?_
    refine pm_R_ret pm_M174 (r := some (.int 0)) rfl rfl ?_
    show pm_R _ 177 13 [.ref 41, .int 0, .int x1] [.int 0] _ _
    refine pm_R_ret pm_M177 (r := some (.int 0)) rfl rfl ?_
    show pm_R _ 197 11 [.ref 41, .int x1, .int x2, .int x3] [.int 0] _ _
    refine pm_R_br pm_M197 (pc' := 65) (st' := []) rfl rfl ?_
    refine pm_R_op pm_M197 (pc' := 66) (st' := [.int (-1)]) rfl rfl rfl ?_
    refine pm_R_ret pm_M197 (r := some (.int (-1))) rfl rfl ?_
    show pm_R _ 0 476 [.ref 0, .ref 16, .ref 41, .int 0] [.int (-1), .int (-1)] _ _
    refine pm_R_br pm_M0 (pc' := 2121) (st' := []) (pm_q0_3 (Nat.le_of_ble_eq_true rfl)) rfl ?_
    exact p1_tail (hh 0 (Nat.le_of_ble_eq_true rfl)) (Nat.le_of_ble_eq_true rfl) (Nat.le_of_ble_eq_true rfl) (Nat.le_of_ble_eq_true rfl)
  · refine pm_R_lo pm_M62 (pc' := 5) rfl rfl rfl ?_
    refine pm_R_lo pm_M62 (pc' := 6) rfl rfl rfl ?_
    refine pm_R_get pm_M62 (pc' := 9) (v := .ref 17) rfl rfl (hh 16 (Nat.le_of_ble_eq_true rfl)) (Nat.le_of_ble_eq_true rfl) (Nat.le_of_ble_eq_true rfl) rfl rfl ?_
    refine pm_R_get pm_M62 (pc' := 12) (v := .ref 23) rfl rfl (hh 17 (Nat.le_of_ble_eq_true rfl)) (Nat.le_of_ble_eq_true rfl) (Nat.le_of_ble_eq_true rfl) rfl rfl ?_
    refine pm_R_op pm_M62 (pc' := 13) (st' := [.int 0, .ref 23, .int x1]) rfl rfl rfl ?_
    refine pm_R_iald pm_M62 (pc' := 14) (v := 0) rfl (hh 23 (Nat.le_of_ble_eq_true rfl)) (Nat.le_of_ble_eq_true rfl) rfl rfl rfl ?_
    refine pm_R_icmp pm_M62 (t := 21) (pc' := 17) rfl rfl rfl (fun c_3 => by exact absurd c_3 c_1) (fun c_3 => ?_)
    refine pm_R_op pm_M62 (pc' := 18) (st' := [.null]) rfl rfl rfl ?_
    refine pm_R_br pm_M62 (pc' := 30) rfl rfl ?_
    refine pm_R_ret pm_M62 (r := some (.null)) rfl rfl ?_
    show pm_R _ 64 5 [.ref 16, .int x1, .int x2, .int x3, pm_no] [.null] _ _
    refine pm_R_lo pm_M64 (pc' := 7) (ls' := [.ref 16, .int x1, .int x2, .int x3, .null]) (st' := []) rfl rfl rfl ?_
    refine pm_R_lo pm_M64 (pc' := 9) rfl rfl rfl ?_
    refine pm_R_br pm_M64 (pc' := 34) rfl rfl ?_
    refine pm_R_op pm_M64 (pc' := 35) (st' := [.int (-1)]) rfl rfl rfl ?_
    refine pm_R_ret pm_M64 (r := some (.int (-1))) rfl rfl ?_
    show pm_R _ 0 457 [.ref 0, .ref 16, .ref 41, .int 0] [.int (-1)] _ _
    refine pm_R_lo pm_M0 (pc' := 458) (pm_q0_3 (Nat.le_of_ble_eq_true rfl)) rfl rfl ?_
    refine pm_R_lo pm_M0 (pc' := 459) (pm_q0_3 (Nat.le_of_ble_eq_true rfl)) rfl rfl ?_
    refine pm_R_lo pm_M0 (pc' := 460) (pm_q0_3 (Nat.le_of_ble_eq_true rfl)) rfl rfl ?_
    refine pm_R_op pm_M0 (pc' := 461) (st' := [.int 1, .int 0, .ref 0, .ref 41, .int (-1)]) (pm_q0_3 (Nat.le_of_ble_eq_true rfl)) rfl rfl ?_
    refine pm_R_op pm_M0 (pc' := 462) (st' := [.int 1, .ref 0, .ref 41, .int (-1)]) (pm_q0_3 (Nat.le_of_ble_eq_true rfl)) rfl rfl ?_
    refine pm_R_iald pm_M0 (pc' := 463) (v := x1) (pm_q0_3 (Nat.le_of_ble_eq_true rfl)) (hh 0 (Nat.le_of_ble_eq_true rfl)) (Nat.le_of_ble_eq_true rfl) rfl hx1 rfl ?_
    refine pm_R_lo pm_M0 (pc' := 464) (pm_q0_3 (Nat.le_of_ble_eq_true rfl)) rfl rfl ?_
    refine pm_R_lo pm_M0 (pc' := 465) (pm_q0_3 (Nat.le_of_ble_eq_true rfl)) rfl rfl ?_
    refine pm_R_op pm_M0 (pc' := 466) (st' := [.int 2, .int 0, .ref 0, .int x1, .ref 41, .int (-1)]) (pm_q0_3 (Nat.le_of_ble_eq_true rfl)) rfl rfl ?_
    refine pm_R_op pm_M0 (pc' := 467) (st' := [.int 2, .ref 0, .int x1, .ref 41, .int (-1)]) (pm_q0_3 (Nat.le_of_ble_eq_true rfl)) rfl rfl ?_
    refine pm_R_iald pm_M0 (pc' := 468) (v := x2) (pm_q0_3 (Nat.le_of_ble_eq_true rfl)) (hh 0 (Nat.le_of_ble_eq_true rfl)) (Nat.le_of_ble_eq_true rfl) rfl hx2 rfl ?_
    refine pm_R_lo pm_M0 (pc' := 469) (pm_q0_3 (Nat.le_of_ble_eq_true rfl)) rfl rfl ?_
    refine pm_R_lo pm_M0 (pc' := 470) (pm_q0_3 (Nat.le_of_ble_eq_true rfl)) rfl rfl ?_
    refine pm_R_op pm_M0 (pc' := 471) (st' := [.int 3, .int 0, .ref 0, .int x2, .int x1, .ref 41, .int (-1)]) (pm_q0_3 (Nat.le_of_ble_eq_true rfl)) rfl rfl ?_
    refine pm_R_op pm_M0 (pc' := 472) (st' := [.int 3, .ref 0, .int x2, .int x1, .ref 41, .int (-1)]) (pm_q0_3 (Nat.le_of_ble_eq_true rfl)) rfl rfl ?_
    refine pm_R_iald pm_M0 (pc' := 473) (v := x3) (pm_q0_3 (Nat.le_of_ble_eq_true rfl)) (hh 0 (Nat.le_of_ble_eq_true rfl)) (Nat.le_of_ble_eq_true rfl) rfl hx3 rfl ?_
    refine pm_R_cv pm_M0 (pc' := 476) (a := 41) (ra := [.int x3, .int x2, .int x1]) (rest := [.int (-1)]) (ls' := [.ref 41, .int x1, .int x2, .int x3]) (pm_q0_3 (Nat.le_of_ble_eq_true rfl)) rfl (Or.inl rfl) pm_M197 (hh 41 (Nat.le_of_ble_eq_true rfl)) rfl (Nat.le_of_ble_eq_true rfl) (Nat.le_of_ble_eq_true rfl) rfl rfl (Nat.le_of_ble_eq_true rfl) rfl rfl ?_
    refine pm_R_lo pm_M197 (pc' := 1) rfl rfl rfl ?_
    refine pm_R_op pm_M197 (pc' := 2) (st' := [.int 0, .ref 41]) rfl rfl rfl ?_
    refine pm_R_put pm_M197 (pc' := 5) (fs' := [.int 0, .ref 42, .ref 43, .ref 44, .ref 45, .ref 46, .ref 47, .ref 48, .ref 49, .ref 50, .int 0, .int 0, .int 0, .int 0, .int 0, .long 0, .int 0, .int 0, .int 0, .ref 51, .ref 52, .int 0, .int 0, .int 0, .int 0, .ref 53, .int 0, .int 0, .ref 54, .ref 55, .ref 56, .int 0, .ref 57, .ref 58, .ref 59, .ref 60, .ref 61, .ref 62, .ref 63, .ref 64, .ref 65, .ref 66, .int 0, .int 0, .int 0, .ref 67, .ref 68, .int 0, .ref 69, .int 0, .int 0, .ref 70, .ref 71]) rfl rfl rfl (hh 41 (Nat.le_of_ble_eq_true rfl)) (Nat.le_of_ble_eq_true rfl) (Nat.le_of_ble_eq_true rfl) (Nat.le_of_ble_eq_true rfl) rfl (Or.inl rfl) rfl rfl ?_
    refine pm_R_lo pm_M197 (pc' := 6) rfl rfl rfl ?_
    refine pm_R_op pm_M197 (pc' := 7) (st' := [.int 0, .ref 41]) rfl rfl rfl ?_
    refine pm_R_lo pm_M197 (pc' := 8) rfl rfl rfl ?_
    refine pm_R_cv pm_M197 (pc' := 11) (a := 41) (ra := [.int x1, .int 0]) (rest := []) (ls' := [.ref 41, .int 0, .int x1]) rfl rfl (Or.inl rfl) pm_M177 rfl rfl (Nat.le_of_ble_eq_true rfl) (Nat.le_of_ble_eq_true rfl) rfl rfl (Nat.le_of_ble_eq_true rfl) rfl rfl ?_
    refine pm_R_lo pm_M177 (pc' := 1) rfl rfl rfl ?_
    refine pm_R_op pm_M177 (pc' := 2) (st' := [.int 0, .int x1]) rfl rfl rfl ?_
    refine pm_R_lo pm_M177 (pc' := 3) rfl rfl rfl ?_
    refine pm_R_get pm_M177 (pc' := 6) (v := .ref 46) rfl rfl rfl (Nat.le_of_ble_eq_true rfl) (Nat.le_of_ble_eq_true rfl) rfl rfl ?_
    refine pm_R_lo pm_M177 (pc' := 7) rfl rfl rfl ?_
    refine pm_R_iald pm_M177 (pc' := 8) (v := 0) rfl (hh 46 (Nat.le_of_ble_eq_true rfl)) (Nat.le_of_ble_eq_true rfl) rfl rfl rfl ?_
    refine pm_R_op pm_M177 (pc' := 9) (st' := [.int 1, .int 0, .int 0, .int x1]) rfl rfl rfl ?_
    refine pm_R_op pm_M177 (pc' := 10) (st' := [.int (-1), .int 0, .int x1]) rfl rfl rfl ?_
    refine pm_R_cs pm_M177 (pc' := 13) (ra := [.int (-1), .int 0, .int x1]) (rest := []) (ls' := [.int x1, .int 0, .int (-1)]) rfl rfl (Or.inl rfl) pm_M174 rfl rfl (Nat.le_of_ble_eq_true rfl) rfl rfl ?_
    refine pm_R_lo pm_M174 (pc' := 1) rfl rfl rfl ?_
    refine pm_R_lo pm_M174 (pc' := 2) rfl rfl rfl ?_
    refine pm_R_icmp pm_M174 (t := 14) (pc' := 5) rfl rfl rfl (fun c_4 => by exact absurd c_4 c_1) (fun c_4 => ?_)
    refine pm_R_lo pm_M174 (pc' := 6) rfl rfl rfl ?_
    refine pm_R_lo pm_M174 (pc' := 7) rfl rfl rfl ?_
    refine pm_R_icmp pm_M174 (t := 14) (pc' := 10) rfl rfl rfl (fun c_5 => ?_) (fun c_5 => by have z0 : ((-1) : Int32).toInt = -1 := (by decide); have z1 : ((0) : Int32).toInt = 0 := (by decide); have q0 := (Int32.le_iff_toInt_le.mp (Int32.not_lt.mp c_1)); have q1 := (Int32.le_iff_toInt_le.mp (Int32.not_lt.mp c_5)); exfalso; omega)
    refine pm_R_op pm_M174 (pc' := 15) (st' := [.int 0]) rfl rfl rfl ?_
    refine pm_R_ret pm_M174 (r := some (.int 0)) rfl rfl ?_
    show pm_R _ 177 13 [.ref 41, .int 0, .int x1] [.int 0] _ _
    refine pm_R_ret pm_M177 (r := some (.int 0)) rfl rfl ?_
    show pm_R _ 197 11 [.ref 41, .int x1, .int x2, .int x3] [.int 0] _ _
    refine pm_R_br pm_M197 (pc' := 65) (st' := []) rfl rfl ?_
    refine pm_R_op pm_M197 (pc' := 66) (st' := [.int (-1)]) rfl rfl rfl ?_
    refine pm_R_ret pm_M197 (r := some (.int (-1))) rfl rfl ?_
    show pm_R _ 0 476 [.ref 0, .ref 16, .ref 41, .int 0] [.int (-1), .int (-1)] _ _
    refine pm_R_br pm_M0 (pc' := 2121) (st' := []) (pm_q0_3 (Nat.le_of_ble_eq_true rfl)) rfl ?_
    exact p1_tail (hh 0 (Nat.le_of_ble_eq_true rfl)) (Nat.le_of_ble_eq_true rfl) (Nat.le_of_ble_eq_true rfl) (Nat.le_of_ble_eq_true rfl)
set_option maxRecDepth 100000 in
set_option maxHeartbeats 40000000 in
theorem p1_c7 (xs : Nat → Int32) (f : Nat → pm_E) (hh : ∀ i, i < 72 → f i = pm_fF 7 xs i) (x0 x1 x2 x3 x4 x5 x6 : Int32) (hx0 : xs 0 = x0) (hx1 : xs 1 = x1) (hx2 : xs 2 = x2) (hx3 : xs 3 = x3) (hx4 : xs 4 = x4) (hx5 : xs 5 = x5) (hx6 : xs 6 = x6) : pm_R 100 0 481 [.ref 0, .ref 16, .ref 41, .int 0] [] (72, 52657, f) p1_Q := by
  refine pm_R_lo pm_M0 (pc' := 482) (pm_q0_4 (Nat.le_of_ble_eq_true rfl)) rfl rfl ?_
  refine pm_R_lo pm_M0 (pc' := 483) (pm_q0_4 (Nat.le_of_ble_eq_true rfl)) rfl rfl ?_
  refine pm_R_lo pm_M0 (pc' := 484) (pm_q0_4 (Nat.le_of_ble_eq_true rfl)) rfl rfl ?_
  refine pm_R_op pm_M0 (pc' := 485) (st' := [.int 1, .int 0, .ref 0, .ref 16]) (pm_q0_4 (Nat.le_of_ble_eq_true rfl)) rfl rfl ?_
  refine pm_R_op pm_M0 (pc' := 486) (st' := [.int 1, .ref 0, .ref 16]) (pm_q0_4 (Nat.le_of_ble_eq_true rfl)) rfl rfl ?_
  refine pm_R_iald pm_M0 (pc' := 487) (v := x1) (pm_q0_4 (Nat.le_of_ble_eq_true rfl)) (hh 0 (Nat.le_of_ble_eq_true rfl)) (Nat.le_of_ble_eq_true rfl) rfl hx1 rfl ?_
  refine pm_R_lo pm_M0 (pc' := 488) (pm_q0_4 (Nat.le_of_ble_eq_true rfl)) rfl rfl ?_
  refine pm_R_lo pm_M0 (pc' := 489) (pm_q0_4 (Nat.le_of_ble_eq_true rfl)) rfl rfl ?_
  refine pm_R_op pm_M0 (pc' := 490) (st' := [.int 2, .int 0, .ref 0, .int x1, .ref 16]) (pm_q0_4 (Nat.le_of_ble_eq_true rfl)) rfl rfl ?_
  refine pm_R_op pm_M0 (pc' := 491) (st' := [.int 2, .ref 0, .int x1, .ref 16]) (pm_q0_4 (Nat.le_of_ble_eq_true rfl)) rfl rfl ?_
  refine pm_R_iald pm_M0 (pc' := 492) (v := x2) (pm_q0_4 (Nat.le_of_ble_eq_true rfl)) (hh 0 (Nat.le_of_ble_eq_true rfl)) (Nat.le_of_ble_eq_true rfl) rfl hx2 rfl ?_
  refine pm_R_cv pm_M0 (pc' := 495) (a := 16) (ra := [.int x2, .int x1]) (rest := []) (ls' := [.ref 16, .int x1, .int x2, pm_no]) (pm_q0_4 (Nat.le_of_ble_eq_true rfl)) rfl (Or.inl rfl) pm_M65 (hh 16 (Nat.le_of_ble_eq_true rfl)) rfl (Nat.le_of_ble_eq_true rfl) (Nat.le_of_ble_eq_true rfl) rfl rfl (Nat.le_of_ble_eq_true rfl) rfl rfl ?_
  refine pm_R_lo pm_M65 (pc' := 1) rfl rfl rfl ?_
  refine pm_R_lo pm_M65 (pc' := 2) rfl rfl rfl ?_
  refine pm_R_cv pm_M65 (pc' := 5) (a := 16) (ra := [.int x1]) (rest := []) (ls' := [.ref 16, .int x1]) rfl rfl (Or.inl rfl) pm_M66 (hh 16 (Nat.le_of_ble_eq_true rfl)) rfl (Nat.le_of_ble_eq_true rfl) (Nat.le_of_ble_eq_true rfl) rfl rfl (Nat.le_of_ble_eq_true rfl) rfl rfl ?_
  refine pm_R_lo pm_M66 (pc' := 1) rfl rfl rfl ?_
  refine pm_R_ifc pm_M66 (t := 17) (pc' := 4) rfl rfl rfl (fun c_1 => ?_) (fun c_1 => ?_)
  · refine pm_R_op pm_M66 (pc' := 18) (st' := [.null]) rfl rfl rfl ?_
    refine pm_R_br pm_M66 (pc' := 30) rfl rfl ?_
    refine pm_R_ret pm_M66 (r := some (.null)) rfl rfl ?_
    show pm_R _ 65 5 [.ref 16, .int x1, .int x2, pm_no] [.null] _ _
    refine pm_R_lo pm_M65 (pc' := 6) (ls' := [.ref 16, .int x1, .int x2, .null]) (st' := []) rfl rfl rfl ?_
    refine pm_R_lo pm_M65 (pc' := 7) rfl rfl rfl ?_
    refine pm_R_br pm_M65 (pc' := 10) rfl rfl ?_
    refine pm_R_op pm_M65 (pc' := 12) (st' := [.int (-2)]) rfl rfl rfl ?_
    refine pm_R_ret pm_M65 (r := some (.int (-2))) rfl rfl ?_
    show pm_R _ 0 495 [.ref 0, .ref 16, .ref 41, .int 0] [.int (-2)] _ _
    refine pm_R_lo pm_M0 (pc' := 496) (pm_q0_4 (Nat.le_of_ble_eq_true rfl)) rfl rfl ?_
    refine pm_R_lo pm_M0 (pc' := 497) (pm_q0_4 (Nat.le_of_ble_eq_true rfl)) rfl rfl ?_
    refine pm_R_lo pm_M0 (pc' := 498) (pm_q0_4 (Nat.le_of_ble_eq_true rfl)) rfl rfl ?_
    refine pm_R_op pm_M0 (pc' := 499) (st' := [.int 1, .int 0, .ref 0, .ref 41, .int (-2)]) (pm_q0_4 (Nat.le_of_ble_eq_true rfl)) rfl rfl ?_
    refine pm_R_op pm_M0 (pc' := 500) (st' := [.int 1, .ref 0, .ref 41, .int (-2)]) (pm_q0_4 (Nat.le_of_ble_eq_true rfl)) rfl rfl ?_
    refine pm_R_iald pm_M0 (pc' := 501) (v := x1) (pm_q0_4 (Nat.le_of_ble_eq_true rfl)) (hh 0 (Nat.le_of_ble_eq_true rfl)) (Nat.le_of_ble_eq_true rfl) rfl hx1 rfl ?_
    refine pm_R_lo pm_M0 (pc' := 502) (pm_q0_4 (Nat.le_of_ble_eq_true rfl)) rfl rfl ?_
    refine pm_R_lo pm_M0 (pc' := 503) (pm_q0_4 (Nat.le_of_ble_eq_true rfl)) rfl rfl ?_
    refine pm_R_op pm_M0 (pc' := 504) (st' := [.int 2, .int 0, .ref 0, .int x1, .ref 41, .int (-2)]) (pm_q0_4 (Nat.le_of_ble_eq_true rfl)) rfl rfl ?_
    refine pm_R_op pm_M0 (pc' := 505) (st' := [.int 2, .ref 0, .int x1, .ref 41, .int (-2)]) (pm_q0_4 (Nat.le_of_ble_eq_true rfl)) rfl rfl ?_
    refine pm_R_iald pm_M0 (pc' := 506) (v := x2) (pm_q0_4 (Nat.le_of_ble_eq_true rfl)) (hh 0 (Nat.le_of_ble_eq_true rfl)) (Nat.le_of_ble_eq_true rfl) rfl hx2 rfl ?_
    refine pm_R_cv pm_M0 (pc' := 509) (a := 41) (ra := [.int x2, .int x1]) (rest := [.int (-2)]) (ls' := [.ref 41, .int x1, .int x2]) (pm_q0_4 (Nat.le_of_ble_eq_true rfl)) rfl (Or.inl rfl) pm_M198 (hh 41 (Nat.le_of_ble_eq_true rfl)) rfl (Nat.le_of_ble_eq_true rfl) (Nat.le_of_ble_eq_true rfl) rfl rfl (Nat.le_of_ble_eq_true rfl) rfl rfl ?_
    refine pm_R_lo pm_M198 (pc' := 1) rfl rfl rfl ?_
    refine pm_R_op pm_M198 (pc' := 2) (st' := [.int 0, .ref 41]) rfl rfl rfl ?_
    refine pm_R_put pm_M198 (pc' := 5) (fs' := [.int 0, .ref 42, .ref 43, .ref 44, .ref 45, .ref 46, .ref 47, .ref 48, .ref 49, .ref 50, .int 0, .int 0, .int 0, .int 0, .int 0, .long 0, .int 0, .int 0, .int 0, .ref 51, .ref 52, .int 0, .int 0, .int 0, .int 0, .ref 53, .int 0, .int 0, .ref 54, .ref 55, .ref 56, .int 0, .ref 57, .ref 58, .ref 59, .ref 60, .ref 61, .ref 62, .ref 63, .ref 64, .ref 65, .ref 66, .int 0, .int 0, .int 0, .ref 67, .ref 68, .int 0, .ref 69, .int 0, .int 0, .ref 70, .ref 71]) rfl rfl rfl (hh 41 (Nat.le_of_ble_eq_true rfl)) (Nat.le_of_ble_eq_true rfl) (Nat.le_of_ble_eq_true rfl) (Nat.le_of_ble_eq_true rfl) rfl (Or.inl rfl) rfl rfl ?_
    refine pm_R_lo pm_M198 (pc' := 6) rfl rfl rfl ?_
    refine pm_R_op pm_M198 (pc' := 7) (st' := [.int 1, .ref 41]) rfl rfl rfl ?_
    refine pm_R_lo pm_M198 (pc' := 8) rfl rfl rfl ?_
    refine pm_R_cv pm_M198 (pc' := 11) (a := 41) (ra := [.int x1, .int 1]) (rest := []) (ls' := [.ref 41, .int 1, .int x1]) rfl rfl (Or.inl rfl) pm_M177 rfl rfl (Nat.le_of_ble_eq_true rfl) (Nat.le_of_ble_eq_true rfl) rfl rfl (Nat.le_of_ble_eq_true rfl) rfl rfl ?_
    refine pm_R_lo pm_M177 (pc' := 1) rfl rfl rfl ?_
    refine pm_R_op pm_M177 (pc' := 2) (st' := [.int 0, .int x1]) rfl rfl rfl ?_
    refine pm_R_lo pm_M177 (pc' := 3) rfl rfl rfl ?_
    refine pm_R_get pm_M177 (pc' := 6) (v := .ref 46) rfl rfl rfl (Nat.le_of_ble_eq_true rfl) (Nat.le_of_ble_eq_true rfl) rfl rfl ?_
    refine pm_R_lo pm_M177 (pc' := 7) rfl rfl rfl ?_
    refine pm_R_iald pm_M177 (pc' := 8) (v := 0) rfl (hh 46 (Nat.le_of_ble_eq_true rfl)) (Nat.le_of_ble_eq_true rfl) rfl rfl rfl ?_
    refine pm_R_op pm_M177 (pc' := 9) (st' := [.int 1, .int 0, .int 0, .int x1]) rfl rfl rfl ?_
    refine pm_R_op pm_M177 (pc' := 10) (st' := [.int (-1), .int 0, .int x1]) rfl rfl rfl ?_
    refine pm_R_cs pm_M177 (pc' := 13) (ra := [.int (-1), .int 0, .int x1]) (rest := []) (ls' := [.int x1, .int 0, .int (-1)]) rfl rfl (Or.inl rfl) pm_M174 rfl rfl (Nat.le_of_ble_eq_true rfl) rfl rfl ?_
    refine pm_R_lo pm_M174 (pc' := 1) rfl rfl rfl ?_
    refine pm_R_lo pm_M174 (pc' := 2) rfl rfl rfl ?_
    refine pm_R_icmp pm_M174 (t := 14) (pc' := 5) rfl rfl rfl (fun c_2 => ?_) (fun c_2 => by exact absurd c_1 c_2)
    refine pm_R_op pm_M174 (pc' := 15) (st' := [.int 0]) rfl rfl rfl ?_
    refine pm_R_ret pm_M174 (r := some (.int 0)) rfl rfl ?_
    show pm_R _ 177 13 [.ref 41, .int 1, .int x1] [.int 0] _ _
    refine pm_R_ret pm_M177 (r := some (.int 0)) rfl rfl ?_
    show pm_R _ 198 11 [.ref 41, .int x1, .int x2] [.int 0] _ _
    refine pm_R_br pm_M198 (pc' := 14) (st' := []) rfl rfl ?_
    refine pm_R_op pm_M198 (pc' := 16) (st' := [.int (-2)]) rfl rfl rfl ?_
    refine pm_R_ret pm_M198 (r := some (.int (-2))) rfl rfl ?_
    show pm_R _ 0 509 [.ref 0, .ref 16, .ref 41, .int 0] [.int (-2), .int (-2)] _ _
    refine pm_R_br pm_M0 (pc' := 2121) (st' := []) (pm_q0_4 (Nat.le_of_ble_eq_true rfl)) rfl ?_
    exact p1_tail (hh 0 (Nat.le_of_ble_eq_true rfl)) (Nat.le_of_ble_eq_true rfl) (Nat.le_of_ble_eq_true rfl) (Nat.le_of_ble_eq_true rfl)
  · refine pm_R_lo pm_M66 (pc' := 5) rfl rfl rfl ?_
    refine pm_R_lo pm_M66 (pc' := 6) rfl rfl rfl ?_
    refine pm_R_get pm_M66 (pc' := 9) (v := .ref 17) rfl rfl (hh 16 (Nat.le_of_ble_eq_true rfl)) (Nat.le_of_ble_eq_true rfl) (Nat.le_of_ble_eq_true rfl) rfl rfl ?_
    refine pm_R_get pm_M66 (pc' := 12) (v := .ref 23) rfl rfl (hh 17 (Nat.le_of_ble_eq_true rfl)) (Nat.le_of_ble_eq_true rfl) (Nat.le_of_ble_eq_true rfl) rfl rfl ?_
    refine pm_R_op pm_M66 (pc' := 13) (st' := [.int 1, .ref 23, .int x1]) rfl rfl rfl ?_
    refine pm_R_iald pm_M66 (pc' := 14) (v := 0) rfl (hh 23 (Nat.le_of_ble_eq_true rfl)) (Nat.le_of_ble_eq_true rfl) rfl rfl rfl ?_
    refine pm_R_icmp pm_M66 (t := 21) (pc' := 17) rfl rfl rfl (fun c_3 => by exact absurd c_3 c_1) (fun c_3 => ?_)
    refine pm_R_op pm_M66 (pc' := 18) (st' := [.null]) rfl rfl rfl ?_
    refine pm_R_br pm_M66 (pc' := 30) rfl rfl ?_
    refine pm_R_ret pm_M66 (r := some (.null)) rfl rfl ?_
    show pm_R _ 65 5 [.ref 16, .int x1, .int x2, pm_no] [.null] _ _
    refine pm_R_lo pm_M65 (pc' := 6) (ls' := [.ref 16, .int x1, .int x2, .null]) (st' := []) rfl rfl rfl ?_
    refine pm_R_lo pm_M65 (pc' := 7) rfl rfl rfl ?_
    refine pm_R_br pm_M65 (pc' := 10) rfl rfl ?_
    refine pm_R_op pm_M65 (pc' := 12) (st' := [.int (-2)]) rfl rfl rfl ?_
    refine pm_R_ret pm_M65 (r := some (.int (-2))) rfl rfl ?_
    show pm_R _ 0 495 [.ref 0, .ref 16, .ref 41, .int 0] [.int (-2)] _ _
    refine pm_R_lo pm_M0 (pc' := 496) (pm_q0_4 (Nat.le_of_ble_eq_true rfl)) rfl rfl ?_
    refine pm_R_lo pm_M0 (pc' := 497) (pm_q0_4 (Nat.le_of_ble_eq_true rfl)) rfl rfl ?_
    refine pm_R_lo pm_M0 (pc' := 498) (pm_q0_4 (Nat.le_of_ble_eq_true rfl)) rfl rfl ?_
    refine pm_R_op pm_M0 (pc' := 499) (st' := [.int 1, .int 0, .ref 0, .ref 41, .int (-2)]) (pm_q0_4 (Nat.le_of_ble_eq_true rfl)) rfl rfl ?_
    refine pm_R_op pm_M0 (pc' := 500) (st' := [.int 1, .ref 0, .ref 41, .int (-2)]) (pm_q0_4 (Nat.le_of_ble_eq_true rfl)) rfl rfl ?_
    refine pm_R_iald pm_M0 (pc' := 501) (v := x1) (pm_q0_4 (Nat.le_of_ble_eq_true rfl)) (hh 0 (Nat.le_of_ble_eq_true rfl)) (Nat.le_of_ble_eq_true rfl) rfl hx1 rfl ?_
    refine pm_R_lo pm_M0 (pc' := 502) (pm_q0_4 (Nat.le_of_ble_eq_true rfl)) rfl rfl ?_
    refine pm_R_lo pm_M0 (pc' := 503) (pm_q0_4 (Nat.le_of_ble_eq_true rfl)) rfl rfl ?_
    refine pm_R_op pm_M0 (pc' := 504) (st' := [.int 2, .int 0, .ref 0, .int x1, .ref 41, .int (-2)]) (pm_q0_4 (Nat.le_of_ble_eq_true rfl)) rfl rfl ?_
    refine pm_R_op pm_M0 (pc' := 505) (st' := [.int 2, .ref 0, .int x1, .ref 41, .int (-2)]) (pm_q0_4 (Nat.le_of_ble_eq_true rfl)) rfl rfl ?_
    refine pm_R_iald pm_M0 (pc' := 506) (v := x2) (pm_q0_4 (Nat.le_of_ble_eq_true rfl)) (hh 0 (Nat.le_of_ble_eq_true rfl)) (Nat.le_of_ble_eq_true rfl) rfl hx2 rfl ?_
    refine pm_R_cv pm_M0 (pc' := 509) (a := 41) (ra := [.int x2, .int x1]) (rest := [.int (-2)]) (ls' := [.ref 41, .int x1, .int x2]) (pm_q0_4 (Nat.le_of_ble_eq_true rfl)) rfl (Or.inl rfl) pm_M198 (hh 41 (Nat.le_of_ble_eq_true rfl)) rfl (Nat.le_of_ble_eq_true rfl) (Nat.le_of_ble_eq_true rfl) rfl rfl (Nat.le_of_ble_eq_true rfl) rfl rfl ?_
    refine pm_R_lo pm_M198 (pc' := 1) rfl rfl rfl ?_
    refine pm_R_op pm_M198 (pc' := 2) (st' := [.int 0, .ref 41]) rfl rfl rfl ?_
    refine pm_R_put pm_M198 (pc' := 5) (fs' := [.int 0, .ref 42, .ref 43, .ref 44, .ref 45, .ref 46, .ref 47, .ref 48, .ref 49, .ref 50, .int 0, .int 0, .int 0, .int 0, .int 0, .long 0, .int 0, .int 0, .int 0, .ref 51, .ref 52, .int 0, .int 0, .int 0, .int 0, .ref 53, .int 0, .int 0, .ref 54, .ref 55, .ref 56, .int 0, .ref 57, .ref 58, .ref 59, .ref 60, .ref 61, .ref 62, .ref 63, .ref 64, .ref 65, .ref 66, .int 0, .int 0, .int 0, .ref 67, .ref 68, .int 0, .ref 69, .int 0, .int 0, .ref 70, .ref 71]) rfl rfl rfl (hh 41 (Nat.le_of_ble_eq_true rfl)) (Nat.le_of_ble_eq_true rfl) (Nat.le_of_ble_eq_true rfl) (Nat.le_of_ble_eq_true rfl) rfl (Or.inl rfl) rfl rfl ?_
    refine pm_R_lo pm_M198 (pc' := 6) rfl rfl rfl ?_
    refine pm_R_op pm_M198 (pc' := 7) (st' := [.int 1, .ref 41]) rfl rfl rfl ?_
    refine pm_R_lo pm_M198 (pc' := 8) rfl rfl rfl ?_
    refine pm_R_cv pm_M198 (pc' := 11) (a := 41) (ra := [.int x1, .int 1]) (rest := []) (ls' := [.ref 41, .int 1, .int x1]) rfl rfl (Or.inl rfl) pm_M177 rfl rfl (Nat.le_of_ble_eq_true rfl) (Nat.le_of_ble_eq_true rfl) rfl rfl (Nat.le_of_ble_eq_true rfl) rfl rfl ?_
    refine pm_R_lo pm_M177 (pc' := 1) rfl rfl rfl ?_
    refine pm_R_op pm_M177 (pc' := 2) (st' := [.int 0, .int x1]) rfl rfl rfl ?_
    refine pm_R_lo pm_M177 (pc' := 3) rfl rfl rfl ?_
    refine pm_R_get pm_M177 (pc' := 6) (v := .ref 46) rfl rfl rfl (Nat.le_of_ble_eq_true rfl) (Nat.le_of_ble_eq_true rfl) rfl rfl ?_
    refine pm_R_lo pm_M177 (pc' := 7) rfl rfl rfl ?_
    refine pm_R_iald pm_M177 (pc' := 8) (v := 0) rfl (hh 46 (Nat.le_of_ble_eq_true rfl)) (Nat.le_of_ble_eq_true rfl) rfl rfl rfl ?_
    refine pm_R_op pm_M177 (pc' := 9) (st' := [.int 1, .int 0, .int 0, .int x1]) rfl rfl rfl ?_
    refine pm_R_op pm_M177 (pc' := 10) (st' := [.int (-1), .int 0, .int x1]) rfl rfl rfl ?_
    refine pm_R_cs pm_M177 (pc' := 13) (ra := [.int (-1), .int 0, .int x1]) (rest := []) (ls' := [.int x1, .int 0, .int (-1)]) rfl rfl (Or.inl rfl) pm_M174 rfl rfl (Nat.le_of_ble_eq_true rfl) rfl rfl ?_
    refine pm_R_lo pm_M174 (pc' := 1) rfl rfl rfl ?_
    refine pm_R_lo pm_M174 (pc' := 2) rfl rfl rfl ?_
    refine pm_R_icmp pm_M174 (t := 14) (pc' := 5) rfl rfl rfl (fun c_4 => by exact absurd c_4 c_1) (fun c_4 => ?_)
    refine pm_R_lo pm_M174 (pc' := 6) rfl rfl rfl ?_
    refine pm_R_lo pm_M174 (pc' := 7) rfl rfl rfl ?_
    refine pm_R_icmp pm_M174 (t := 14) (pc' := 10) rfl rfl rfl (fun c_5 => ?_) (fun c_5 => by have z0 : ((-1) : Int32).toInt = -1 := (by decide); have z1 : ((0) : Int32).toInt = 0 := (by decide); have q0 := (Int32.le_iff_toInt_le.mp (Int32.not_lt.mp c_1)); have q1 := (Int32.le_iff_toInt_le.mp (Int32.not_lt.mp c_5)); exfalso; omega)
    refine pm_R_op pm_M174 (pc' := 15) (st' := [.int 0]) rfl rfl rfl ?_
    refine pm_R_ret pm_M174 (r := some (.int 0)) rfl rfl ?_
    show pm_R _ 177 13 [.ref 41, .int 1, .int x1] [.int 0] _ _
    refine pm_R_ret pm_M177 (r := some (.int 0)) rfl rfl ?_
    show pm_R _ 198 11 [.ref 41, .int x1, .int x2] [.int 0] _ _
    refine pm_R_br pm_M198 (pc' := 14) (st' := []) rfl rfl ?_
    refine pm_R_op pm_M198 (pc' := 16) (st' := [.int (-2)]) rfl rfl rfl ?_
    refine pm_R_ret pm_M198 (r := some (.int (-2))) rfl rfl ?_
    show pm_R _ 0 509 [.ref 0, .ref 16, .ref 41, .int 0] [.int (-2), .int (-2)] _ _
    refine pm_R_br pm_M0 (pc' := 2121) (st' := []) (pm_q0_4 (Nat.le_of_ble_eq_true rfl)) rfl ?_
    exact p1_tail (hh 0 (Nat.le_of_ble_eq_true rfl)) (Nat.le_of_ble_eq_true rfl) (Nat.le_of_ble_eq_true rfl) (Nat.le_of_ble_eq_true rfl)
set_option maxRecDepth 100000 in
set_option maxHeartbeats 40000000 in
theorem p1_c8 (xs : Nat → Int32) (f : Nat → pm_E) (hh : ∀ i, i < 72 → f i = pm_fF 7 xs i) (x0 x1 x2 x3 x4 x5 x6 : Int32) (hx0 : xs 0 = x0) (hx1 : xs 1 = x1) (hx2 : xs 2 = x2) (hx3 : xs 3 = x3) (hx4 : xs 4 = x4) (hx5 : xs 5 = x5) (hx6 : xs 6 = x6) : pm_R 100 0 514 [.ref 0, .ref 16, .ref 41, .int 0] [] (72, 52657, f) p1_Q := by
  refine pm_R_lo pm_M0 (pc' := 515) (pm_q0_4 (Nat.le_of_ble_eq_true rfl)) rfl rfl ?_
  refine pm_R_lo pm_M0 (pc' := 516) (pm_q0_4 (Nat.le_of_ble_eq_true rfl)) rfl rfl ?_
  refine pm_R_lo pm_M0 (pc' := 517) (pm_q0_4 (Nat.le_of_ble_eq_true rfl)) rfl rfl ?_
  refine pm_R_op pm_M0 (pc' := 518) (st' := [.int 1, .int 0, .ref 0, .ref 16]) (pm_q0_4 (Nat.le_of_ble_eq_true rfl)) rfl rfl ?_
  refine pm_R_op pm_M0 (pc' := 519) (st' := [.int 1, .ref 0, .ref 16]) (pm_q0_4 (Nat.le_of_ble_eq_true rfl)) rfl rfl ?_
  refine pm_R_iald pm_M0 (pc' := 520) (v := x1) (pm_q0_4 (Nat.le_of_ble_eq_true rfl)) (hh 0 (Nat.le_of_ble_eq_true rfl)) (Nat.le_of_ble_eq_true rfl) rfl hx1 rfl ?_
  refine pm_R_lo pm_M0 (pc' := 521) (pm_q0_4 (Nat.le_of_ble_eq_true rfl)) rfl rfl ?_
  refine pm_R_lo pm_M0 (pc' := 522) (pm_q0_4 (Nat.le_of_ble_eq_true rfl)) rfl rfl ?_
  refine pm_R_op pm_M0 (pc' := 523) (st' := [.int 2, .int 0, .ref 0, .int x1, .ref 16]) (pm_q0_4 (Nat.le_of_ble_eq_true rfl)) rfl rfl ?_
  refine pm_R_op pm_M0 (pc' := 524) (st' := [.int 2, .ref 0, .int x1, .ref 16]) (pm_q0_4 (Nat.le_of_ble_eq_true rfl)) rfl rfl ?_
  refine pm_R_iald pm_M0 (pc' := 525) (v := x2) (pm_q0_4 (Nat.le_of_ble_eq_true rfl)) (hh 0 (Nat.le_of_ble_eq_true rfl)) (Nat.le_of_ble_eq_true rfl) rfl hx2 rfl ?_
  refine pm_R_lo pm_M0 (pc' := 526) (pm_q0_4 (Nat.le_of_ble_eq_true rfl)) rfl rfl ?_
  refine pm_R_lo pm_M0 (pc' := 527) (pm_q0_4 (Nat.le_of_ble_eq_true rfl)) rfl rfl ?_
  refine pm_R_op pm_M0 (pc' := 528) (st' := [.int 3, .int 0, .ref 0, .int x2, .int x1, .ref 16]) (pm_q0_4 (Nat.le_of_ble_eq_true rfl)) rfl rfl ?_
  refine pm_R_op pm_M0 (pc' := 529) (st' := [.int 3, .ref 0, .int x2, .int x1, .ref 16]) (pm_q0_4 (Nat.le_of_ble_eq_true rfl)) rfl rfl ?_
  refine pm_R_iald pm_M0 (pc' := 530) (v := x3) (pm_q0_4 (Nat.le_of_ble_eq_true rfl)) (hh 0 (Nat.le_of_ble_eq_true rfl)) (Nat.le_of_ble_eq_true rfl) rfl hx3 rfl ?_
  refine pm_R_lo pm_M0 (pc' := 531) (pm_q0_4 (Nat.le_of_ble_eq_true rfl)) rfl rfl ?_
  refine pm_R_lo pm_M0 (pc' := 532) (pm_q0_4 (Nat.le_of_ble_eq_true rfl)) rfl rfl ?_
  refine pm_R_op pm_M0 (pc' := 533) (st' := [.int 4, .int 0, .ref 0, .int x3, .int x2, .int x1, .ref 16]) (pm_q0_4 (Nat.le_of_ble_eq_true rfl)) rfl rfl ?_
  refine pm_R_op pm_M0 (pc' := 534) (st' := [.int 4, .ref 0, .int x3, .int x2, .int x1, .ref 16]) (pm_q0_4 (Nat.le_of_ble_eq_true rfl)) rfl rfl ?_
  refine pm_R_iald pm_M0 (pc' := 535) (v := x4) (pm_q0_4 (Nat.le_of_ble_eq_true rfl)) (hh 0 (Nat.le_of_ble_eq_true rfl)) (Nat.le_of_ble_eq_true rfl) rfl hx4 rfl ?_
  refine pm_R_lo pm_M0 (pc' := 536) (pm_q0_4 (Nat.le_of_ble_eq_true rfl)) rfl rfl ?_
  refine pm_R_lo pm_M0 (pc' := 537) (pm_q0_4 (Nat.le_of_ble_eq_true rfl)) rfl rfl ?_
  refine pm_R_op pm_M0 (pc' := 538) (st' := [.int 5, .int 0, .ref 0, .int x4, .int x3, .int x2, .int x1, .ref 16]) (pm_q0_4 (Nat.le_of_ble_eq_true rfl)) rfl rfl ?_
  refine pm_R_op pm_M0 (pc' := 539) (st' := [.int 5, .ref 0, .int x4, .int x3, .int x2, .int x1, .ref 16]) (pm_q0_4 (Nat.le_of_ble_eq_true rfl)) rfl rfl ?_
  refine pm_R_iald pm_M0 (pc' := 540) (v := x5) (pm_q0_4 (Nat.le_of_ble_eq_true rfl)) (hh 0 (Nat.le_of_ble_eq_true rfl)) (Nat.le_of_ble_eq_true rfl) rfl hx5 rfl ?_
  refine pm_R_cv pm_M0 (pc' := 543) (a := 16) (ra := [.int x5, .int x4, .int x3, .int x2, .int x1]) (rest := []) (ls' := [.ref 16, .int x1, .int x2, .int x3, .int x4, .int x5, pm_no, pm_no]) (pm_q0_4 (Nat.le_of_ble_eq_true rfl)) rfl (Or.inl rfl) pm_M68 (hh 16 (Nat.le_of_ble_eq_true rfl)) rfl (Nat.le_of_ble_eq_true rfl) (Nat.le_of_ble_eq_true rfl) rfl rfl (Nat.le_of_ble_eq_true rfl) rfl rfl ?_
  refine pm_R_lo pm_M68 (pc' := 1) rfl rfl rfl ?_
  refine pm_R_lo pm_M68 (pc' := 2) rfl rfl rfl ?_
  refine pm_R_cv pm_M68 (pc' := 5) (a := 16) (ra := [.int x1]) (rest := []) (ls' := [.ref 16, .int x1]) rfl rfl (Or.inl rfl) pm_M62 (hh 16 (Nat.le_of_ble_eq_true rfl)) rfl (Nat.le_of_ble_eq_true rfl) (Nat.le_of_ble_eq_true rfl) rfl rfl (Nat.le_of_ble_eq_true rfl) rfl rfl ?_
  refine pm_R_lo pm_M62 (pc' := 1) rfl rfl rfl ?_
  refine pm_R_ifc pm_M62 (t := 17) (pc' := 4) rfl rfl rfl (fun c_1 => ?_) (fun c_1 => ?_)
  · refine pm_R_op pm_M62 (pc' := 18) (st' := [.null]) rfl rfl rfl ?_
    refine pm_R_br pm_M62 (pc' := 30) rfl rfl ?_
    refine pm_R_ret pm_M62 (r := some (.null)) rfl rfl ?_
    show pm_R _ 68 5 [.ref 16, .int x1, .int x2, .int x3, .int x4, .int x5, pm_no, pm_no] [.null] _ _
    refine pm_R_lo pm_M68 (pc' := 7) (ls' := [.ref 16, .int x1, .int x2, .int x3, .int x4, .int x5, .null, pm_no]) (st' := []) rfl rfl rfl ?_
    refine pm_R_lo pm_M68 (pc' := 8) rfl rfl rfl ?_
    refine pm_R_lo pm_M68 (pc' := 9) rfl rfl rfl ?_
    refine pm_R_cv pm_M68 (pc' := 12) (a := 16) (ra := [.int x2]) (rest := []) (ls' := [.ref 16, .int x2]) rfl rfl (Or.inl rfl) pm_M66 (hh 16 (Nat.le_of_ble_eq_true rfl)) rfl (Nat.le_of_ble_eq_true rfl) (Nat.le_of_ble_eq_true rfl) rfl rfl (Nat.le_of_ble_eq_true rfl) rfl rfl ?_
    refine pm_R_lo pm_M66 (pc' := 1) rfl rfl rfl ?_
    refine pm_R_ifc pm_M66 (t := 17) (pc' := 4) rfl rfl rfl (fun c_2 => ?_) (fun c_2 => ?_)
    · refine pm_R_op pm_M66 (pc' := 18) (st' := [.null]) rfl rfl rfl ?_
      refine pm_R_br pm_M66 (pc' := 30) rfl rfl ?_
      refine pm_R_ret pm_M66 (r := some (.null)) rfl rfl ?_
      show pm_R _ 68 12 [.ref 16, .int x1, .int x2, .int x3, .int x4, .int x5, .null, pm_no] [.null] _ _
      refine pm_R_lo pm_M68 (pc' := 14) (ls' := [.ref 16, .int x1, .int x2, .int x3, .int x4, .int x5, .null, .null]) (st' := []) rfl rfl rfl ?_
      refine pm_R_lo pm_M68 (pc' := 16) rfl rfl rfl ?_
      refine pm_R_br pm_M68 (pc' := 46) rfl rfl ?_
      refine pm_R_ldc2 pm_M68 (pc' := 49) rfl rfl rfl ?_
      refine pm_R_ret pm_M68 (r := some (.long (-1))) rfl rfl ?_
      show pm_R _ 0 543 [.ref 0, .ref 16, .ref 41, .int 0] [.long (-1)] _ _
      refine pm_R_lo pm_M0 (pc' := 544) (pm_q0_4 (Nat.le_of_ble_eq_true rfl)) rfl rfl ?_
      refine pm_R_lo pm_M0 (pc' := 545) (pm_q0_4 (Nat.le_of_ble_eq_true rfl)) rfl rfl ?_
      refine pm_R_lo pm_M0 (pc' := 546) (pm_q0_4 (Nat.le_of_ble_eq_true rfl)) rfl rfl ?_
      refine pm_R_op pm_M0 (pc' := 547) (st' := [.int 1, .int 0, .ref 0, .ref 41, .long (-1)]) (pm_q0_4 (Nat.le_of_ble_eq_true rfl)) rfl rfl ?_
      refine pm_R_op pm_M0 (pc' := 548) (st' := [.int 1, .ref 0, .ref 41, .long (-1)]) (pm_q0_4 (Nat.le_of_ble_eq_true rfl)) rfl rfl ?_
      refine pm_R_iald pm_M0 (pc' := 549) (v := x1) (pm_q0_5 (Nat.le_of_ble_eq_true rfl)) (hh 0 (Nat.le_of_ble_eq_true rfl)) (Nat.le_of_ble_eq_true rfl) rfl hx1 rfl ?_
      refine pm_R_lo pm_M0 (pc' := 550) (pm_q0_5 (Nat.le_of_ble_eq_true rfl)) rfl rfl ?_
      refine pm_R_lo pm_M0 (pc' := 551) (pm_q0_5 (Nat.le_of_ble_eq_true rfl)) rfl rfl ?_
      refine pm_R_op pm_M0 (pc' := 552) (st' := [.int 2, .int 0, .ref 0, .int x1, .ref 41, .long (-1)]) (pm_q0_5 (Nat.le_of_ble_eq_true rfl)) rfl rfl ?_
      refine pm_R_op pm_M0 (pc' := 553) (st' := [.int 2, .ref 0, .int x1, .ref 41, .long (-1)]) (pm_q0_5 (Nat.le_of_ble_eq_true rfl)) rfl rfl ?_
      refine pm_R_iald pm_M0 (pc' := 554) (v := x2) (pm_q0_5 (Nat.le_of_ble_eq_true rfl)) (hh 0 (Nat.le_of_ble_eq_true rfl)) (Nat.le_of_ble_eq_true rfl) rfl hx2 rfl ?_
      refine pm_R_lo pm_M0 (pc' := 555) (pm_q0_5 (Nat.le_of_ble_eq_true rfl)) rfl rfl ?_
      refine pm_R_lo pm_M0 (pc' := 556) (pm_q0_5 (Nat.le_of_ble_eq_true rfl)) rfl rfl ?_
      refine pm_R_op pm_M0 (pc' := 557) (st' := [.int 3, .int 0, .ref 0, .int x2, .int x1, .ref 41, .long (-1)]) (pm_q0_5 (Nat.le_of_ble_eq_true rfl)) rfl rfl ?_
      refine pm_R_op pm_M0 (pc' := 558) (st' := [.int 3, .ref 0, .int x2, .int x1, .ref 41, .long (-1)]) (pm_q0_5 (Nat.le_of_ble_eq_true rfl)) rfl rfl ?_
      refine pm_R_iald pm_M0 (pc' := 559) (v := x3) (pm_q0_5 (Nat.le_of_ble_eq_true rfl)) (hh 0 (Nat.le_of_ble_eq_true rfl)) (Nat.le_of_ble_eq_true rfl) rfl hx3 rfl ?_
      refine pm_R_lo pm_M0 (pc' := 560) (pm_q0_5 (Nat.le_of_ble_eq_true rfl)) rfl rfl ?_
      refine pm_R_lo pm_M0 (pc' := 561) (pm_q0_5 (Nat.le_of_ble_eq_true rfl)) rfl rfl ?_
      refine pm_R_op pm_M0 (pc' := 562) (st' := [.int 4, .int 0, .ref 0, .int x3, .int x2, .int x1, .ref 41, .long (-1)]) (pm_q0_5 (Nat.le_of_ble_eq_true rfl)) rfl rfl ?_
      refine pm_R_op pm_M0 (pc' := 563) (st' := [.int 4, .ref 0, .int x3, .int x2, .int x1, .ref 41, .long (-1)]) (pm_q0_5 (Nat.le_of_ble_eq_true rfl)) rfl rfl ?_
      refine pm_R_iald pm_M0 (pc' := 564) (v := x4) (pm_q0_5 (Nat.le_of_ble_eq_true rfl)) (hh 0 (Nat.le_of_ble_eq_true rfl)) (Nat.le_of_ble_eq_true rfl) rfl hx4 rfl ?_
      refine pm_R_lo pm_M0 (pc' := 565) (pm_q0_5 (Nat.le_of_ble_eq_true rfl)) rfl rfl ?_
      refine pm_R_lo pm_M0 (pc' := 566) (pm_q0_5 (Nat.le_of_ble_eq_true rfl)) rfl rfl ?_
      refine pm_R_op pm_M0 (pc' := 567) (st' := [.int 5, .int 0, .ref 0, .int x4, .int x3, .int x2, .int x1, .ref 41, .long (-1)]) (pm_q0_5 (Nat.le_of_ble_eq_true rfl)) rfl rfl ?_
      refine pm_R_op pm_M0 (pc' := 568) (st' := [.int 5, .ref 0, .int x4, .int x3, .int x2, .int x1, .ref 41, .long (-1)]) (pm_q0_5 (Nat.le_of_ble_eq_true rfl)) rfl rfl ?_
      refine pm_R_iald pm_M0 (pc' := 569) (v := x5) (pm_q0_5 (Nat.le_of_ble_eq_true rfl)) (hh 0 (Nat.le_of_ble_eq_true rfl)) (Nat.le_of_ble_eq_true rfl) rfl hx5 rfl ?_
      refine pm_R_cv pm_M0 (pc' := 572) (a := 41) (ra := [.int x5, .int x4, .int x3, .int x2, .int x1]) (rest := [.long (-1)]) (ls' := [.ref 41, .int x1, .int x2, .int x3, .int x4, .int x5]) (pm_q0_5 (Nat.le_of_ble_eq_true rfl)) rfl (Or.inl rfl) pm_M199 (hh 41 (Nat.le_of_ble_eq_true rfl)) rfl (Nat.le_of_ble_eq_true rfl) (Nat.le_of_ble_eq_true rfl) rfl rfl (Nat.le_of_ble_eq_true rfl) rfl rfl ?_
      refine pm_R_lo pm_M199 (pc' := 1) rfl rfl rfl ?_
      refine pm_R_op pm_M199 (pc' := 2) (st' := [.int 0, .ref 41]) rfl rfl rfl ?_
      refine pm_R_put pm_M199 (pc' := 5) (fs' := [.int 0, .ref 42, .ref 43, .ref 44, .ref 45, .ref 46, .ref 47, .ref 48, .ref 49, .ref 50, .int 0, .int 0, .int 0, .int 0, .int 0, .long 0, .int 0, .int 0, .int 0, .ref 51, .ref 52, .int 0, .int 0, .int 0, .int 0, .ref 53, .int 0, .int 0, .ref 54, .ref 55, .ref 56, .int 0, .ref 57, .ref 58, .ref 59, .ref 60, .ref 61, .ref 62, .ref 63, .ref 64, .ref 65, .ref 66, .int 0, .int 0, .int 0, .ref 67, .ref 68, .int 0, .ref 69, .int 0, .int 0, .ref 70, .ref 71]) rfl rfl rfl (hh 41 (Nat.le_of_ble_eq_true rfl)) (Nat.le_of_ble_eq_true rfl) (Nat.le_of_ble_eq_true rfl) (Nat.le_of_ble_eq_true rfl) rfl (Or.inl rfl) rfl rfl ?_
      refine pm_R_lo pm_M199 (pc' := 6) rfl rfl rfl ?_
      refine pm_R_lo pm_M199 (pc' := 7) rfl rfl rfl ?_
      refine pm_R_lo pm_M199 (pc' := 8) rfl rfl rfl ?_
      refine pm_R_cv pm_M199 (pc' := 11) (a := 41) (ra := [.int x2, .int x1]) (rest := []) (ls' := [.ref 41, .int x1, .int x2]) rfl rfl (Or.inl rfl) pm_M200 rfl rfl (Nat.le_of_ble_eq_true rfl) (Nat.le_of_ble_eq_true rfl) rfl rfl (Nat.le_of_ble_eq_true rfl) rfl rfl ?_
      refine pm_R_lo pm_M200 (pc' := 1) rfl rfl rfl ?_
      refine pm_R_op pm_M200 (pc' := 2) (st' := [.int 0, .ref 41]) rfl rfl rfl ?_
      refine pm_R_lo pm_M200 (pc' := 3) rfl rfl rfl ?_
      refine pm_R_cv pm_M200 (pc' := 6) (a := 41) (ra := [.int x1, .int 0]) (rest := []) (ls' := [.ref 41, .int 0, .int x1]) rfl rfl (Or.inl rfl) pm_M177 rfl rfl (Nat.le_of_ble_eq_true rfl) (Nat.le_of_ble_eq_true rfl) rfl rfl (Nat.le_of_ble_eq_true rfl) rfl rfl ?_
      refine pm_R_lo pm_M177 (pc' := 1) rfl rfl rfl ?_
      refine pm_R_op pm_M177 (pc' := 2) (st' := [.int 0, .int x1]) rfl rfl rfl ?_
      refine pm_R_lo pm_M177 (pc' := 3) rfl rfl rfl ?_
      refine pm_R_get pm_M177 (pc' := 6) (v := .ref 46) rfl rfl rfl (Nat.le_of_ble_eq_true rfl) (Nat.le_of_ble_eq_true rfl) rfl rfl ?_
      refine pm_R_lo pm_M177 (pc' := 7) rfl rfl rfl ?_
      refine pm_R_iald pm_M177 (pc' := 8) (v := 0) rfl (hh 46 (Nat.le_of_ble_eq_true rfl)) (Nat.le_of_ble_eq_true rfl) rfl rfl rfl ?_
      refine pm_R_op pm_M177 (pc' := 9) (st' := [.int 1, .int 0, .int 0, .int x1]) rfl rfl rfl ?_
      refine pm_R_op pm_M177 (pc' := 10) (st' := [.int (-1), .int 0, .int x1]) rfl rfl rfl ?_
      refine pm_R_cs pm_M177 (pc' := 13) (ra := [.int (-1), .int 0, .int x1]) (rest := []) (ls' := [.int x1, .int 0, .int (-1)]) rfl rfl (Or.inl rfl) pm_M174 rfl rfl (Nat.le_of_ble_eq_true rfl) rfl rfl ?_
      refine pm_R_lo pm_M174 (pc' := 1) rfl rfl rfl ?_
      refine pm_R_lo pm_M174 (pc' := 2) rfl rfl rfl ?_
      refine pm_R_icmp pm_M174 (t := 14) (pc' := 5) rfl rfl rfl (fun c_3 => ?_) (fun c_3 => by exact absurd c_1 c_3)
      refine pm_R_op pm_M174 (pc' := 15) (st' := [.int 0]) rfl rfl rfl ?_
      refine pm_R_ret pm_M174 (r := some (.int 0)) rfl rfl ?_
      show pm_R _ 177 13 [.ref 41, .int 0, .int x1] [.int 0] _ _
      refine pm_R_ret pm_M177 (r := some (.int 0)) rfl rfl ?_
      show pm_R _ 200 6 [.ref 41, .int x1, .int x2] [.int 0] _ _
      refine pm_R_br pm_M200 (pc' := 18) (st' := []) rfl rfl ?_
      refine pm_R_op pm_M200 (pc' := 19) (st' := [.int 0]) rfl rfl rfl ?_
      refine pm_R_ret pm_M200 (r := some (.int 0)) rfl rfl ?_
      show pm_R _ 199 11 [.ref 41, .int x1, .int x2, .int x3, .int x4, .int x5] [.int 0] _ _
      refine pm_R_br pm_M199 (pc' := 54) (st' := []) rfl rfl ?_
      refine pm_R_ldc2 pm_M199 (pc' := 57) rfl rfl rfl ?_
      refine pm_R_ret pm_M199 (r := some (.long (-1))) rfl rfl ?_
      show pm_R _ 0 572 [.ref 0, .ref 16, .ref 41, .int 0] [.long (-1), .long (-1)] _ _
      refine pm_R_op pm_M0 (pc' := 573) (st' := [.int 0]) (pm_q0_5 (Nat.le_of_ble_eq_true rfl)) rfl rfl ?_
      refine pm_R_br pm_M0 (pc' := 2121) (st' := []) (pm_q0_5 (Nat.le_of_ble_eq_true rfl)) rfl ?_
      exact p1_tail (hh 0 (Nat.le_of_ble_eq_true rfl)) (Nat.le_of_ble_eq_true rfl) (Nat.le_of_ble_eq_true rfl) (Nat.le_of_ble_eq_true rfl)
    · refine pm_R_lo pm_M66 (pc' := 5) rfl rfl rfl ?_
      refine pm_R_lo pm_M66 (pc' := 6) rfl rfl rfl ?_
      refine pm_R_get pm_M66 (pc' := 9) (v := .ref 17) rfl rfl (hh 16 (Nat.le_of_ble_eq_true rfl)) (Nat.le_of_ble_eq_true rfl) (Nat.le_of_ble_eq_true rfl) rfl rfl ?_
      refine pm_R_get pm_M66 (pc' := 12) (v := .ref 23) rfl rfl (hh 17 (Nat.le_of_ble_eq_true rfl)) (Nat.le_of_ble_eq_true rfl) (Nat.le_of_ble_eq_true rfl) rfl rfl ?_
      refine pm_R_op pm_M66 (pc' := 13) (st' := [.int 1, .ref 23, .int x2]) rfl rfl rfl ?_
      refine pm_R_iald pm_M66 (pc' := 14) (v := 0) rfl (hh 23 (Nat.le_of_ble_eq_true rfl)) (Nat.le_of_ble_eq_true rfl) rfl rfl rfl ?_
      refine pm_R_icmp pm_M66 (t := 21) (pc' := 17) rfl rfl rfl (fun c_4 => by exact absurd c_4 c_2) (fun c_4 => ?_)
      refine pm_R_op pm_M66 (pc' := 18) (st' := [.null]) rfl rfl rfl ?_
      refine pm_R_br pm_M66 (pc' := 30) rfl rfl ?_
      refine pm_R_ret pm_M66 (r := some (.null)) rfl rfl ?_
      show pm_R _ 68 12 [.ref 16, .int x1, .int x2, .int x3, .int x4, .int x5, .null, pm_no] [.null] _ _
      refine pm_R_lo pm_M68 (pc' := 14) (ls' := [.ref 16, .int x1, .int x2, .int x3, .int x4, .int x5, .null, .null]) (st' := []) rfl rfl rfl ?_
      refine pm_R_lo pm_M68 (pc' := 16) rfl rfl rfl ?_
      refine pm_R_br pm_M68 (pc' := 46) rfl rfl ?_
      refine pm_R_ldc2 pm_M68 (pc' := 49) rfl rfl rfl ?_
      refine pm_R_ret pm_M68 (r := some (.long (-1))) rfl rfl ?_
      show pm_R _ 0 543 [.ref 0, .ref 16, .ref 41, .int 0] [.long (-1)] _ _
      refine pm_R_lo pm_M0 (pc' := 544) (pm_q0_4 (Nat.le_of_ble_eq_true rfl)) rfl rfl ?_
      refine pm_R_lo pm_M0 (pc' := 545) (pm_q0_4 (Nat.le_of_ble_eq_true rfl)) rfl rfl ?_
      refine pm_R_lo pm_M0 (pc' := 546) (pm_q0_4 (Nat.le_of_ble_eq_true rfl)) rfl rfl ?_
      refine pm_R_op pm_M0 (pc' := 547) (st' := [.int 1, .int 0, .ref 0, .ref 41, .long (-1)]) (pm_q0_4 (Nat.le_of_ble_eq_true rfl)) rfl rfl ?_
      refine pm_R_op pm_M0 (pc' := 548) (st' := [.int 1, .ref 0, .ref 41, .long (-1)]) (pm_q0_4 (Nat.le_of_ble_eq_true rfl)) rfl rfl ?_
      refine pm_R_iald pm_M0 (pc' := 549) (v := x1) (pm_q0_5 (Nat.le_of_ble_eq_true rfl)) (hh 0 (Nat.le_of_ble_eq_true rfl)) (Nat.le_of_ble_eq_true rfl) rfl hx1 rfl ?_
      refine pm_R_lo pm_M0 (pc' := 550) (pm_q0_5 (Nat.le_of_ble_eq_true rfl)) rfl rfl ?_
      refine pm_R_lo pm_M0 (pc' := 551) (pm_q0_5 (Nat.le_of_ble_eq_true rfl)) rfl rfl ?_
      refine pm_R_op pm_M0 (pc' := 552) (st' := [.int 2, .int 0, .ref 0, .int x1, .ref 41, .long (-1)]) (pm_q0_5 (Nat.le_of_ble_eq_true rfl)) rfl rfl ?_
      refine pm_R_op pm_M0 (pc' := 553) (st' := [.int 2, .ref 0, .int x1, .ref 41, .long (-1)]) (pm_q0_5 (Nat.le_of_ble_eq_true rfl)) rfl rfl ?_
      refine pm_R_iald pm_M0 (pc' := 554) (v := x2) (pm_q0_5 (Nat.le_of_ble_eq_true rfl)) (hh 0 (Nat.le_of_ble_eq_true rfl)) (Nat.le_of_ble_eq_true rfl) rfl hx2 rfl ?_
      refine pm_R_lo pm_M0 (pc' := 555) (pm_q0_5 (Nat.le_of_ble_eq_true rfl)) rfl rfl ?_
      refine pm_R_lo pm_M0 (pc' := 556) (pm_q0_5 (Nat.le_of_ble_eq_true rfl)) rfl rfl ?_
      refine pm_R_op pm_M0 (pc' := 557) (st' := [.int 3, .int 0, .ref 0, .int x2, .int x1, .ref 41, .long (-1)]) (pm_q0_5 (Nat.le_of_ble_eq_true rfl)) rfl rfl ?_
      refine pm_R_op pm_M0 (pc' := 558) (st' := [.int 3, .ref 0, .int x2, .int x1, .ref 41, .long (-1)]) (pm_q0_5 (Nat.le_of_ble_eq_true rfl)) rfl rfl ?_
      refine pm_R_iald pm_M0 (pc' := 559) (v := x3) (pm_q0_5 (Nat.le_of_ble_eq_true rfl)) (hh 0 (Nat.le_of_ble_eq_true rfl)) (Nat.le_of_ble_eq_true rfl) rfl hx3 rfl ?_
      refine pm_R_lo pm_M0 (pc' := 560) (pm_q0_5 (Nat.le_of_ble_eq_true rfl)) rfl rfl ?_
      refine pm_R_lo pm_M0 (pc' := 561) (pm_q0_5 (Nat.le_of_ble_eq_true rfl)) rfl rfl ?_
      refine pm_R_op pm_M0 (pc' := 562) (st' := [.int 4, .int 0, .ref 0, .int x3, .int x2, .int x1, .ref 41, .long (-1)]) (pm_q0_5 (Nat.le_of_ble_eq_true rfl)) rfl rfl ?_
      refine pm_R_op pm_M0 (pc' := 563) (st' := [.int 4, .ref 0, .int x3, .int x2, .int x1, .ref 41, .long (-1)]) (pm_q0_5 (Nat.le_of_ble_eq_true rfl)) rfl rfl ?_
      refine pm_R_iald pm_M0 (pc' := 564) (v := x4) (pm_q0_5 (Nat.le_of_ble_eq_true rfl)) (hh 0 (Nat.le_of_ble_eq_true rfl)) (Nat.le_of_ble_eq_true rfl) rfl hx4 rfl ?_
      refine pm_R_lo pm_M0 (pc' := 565) (pm_q0_5 (Nat.le_of_ble_eq_true rfl)) rfl rfl ?_
      refine pm_R_lo pm_M0 (pc' := 566) (pm_q0_5 (Nat.le_of_ble_eq_true rfl)) rfl rfl ?_
      refine pm_R_op pm_M0 (pc' := 567) (st' := [.int 5, .int 0, .ref 0, .int x4, .int x3, .int x2, .int x1, .ref 41, .long (-1)]) (pm_q0_5 (Nat.le_of_ble_eq_true rfl)) rfl rfl ?_
      refine pm_R_op pm_M0 (pc' := 568) (st' := [.int 5, .ref 0, .int x4, .int x3, .int x2, .int x1, .ref 41, .long (-1)]) (pm_q0_5 (Nat.le_of_ble_eq_true rfl)) rfl rfl ?_
      refine pm_R_iald pm_M0 (pc' := 569) (v := x5) (pm_q0_5 (Nat.le_of_ble_eq_true rfl)) (hh 0 (Nat.le_of_ble_eq_true rfl)) (Nat.le_of_ble_eq_true rfl) rfl hx5 rfl ?_
      refine pm_R_cv pm_M0 (pc' := 572) (a := 41) (ra := [.int x5, .int x4, .int x3, .int x2, .int x1]) (rest := [.long (-1)]) (ls' := [.ref 41, .int x1, .int x2, .int x3, .int x4, .int x5]) (pm_q0_5 (Nat.le_of_ble_eq_true rfl)) rfl (Or.inl rfl) pm_M199 (hh 41 (Nat.le_of_ble_eq_true rfl)) rfl (Nat.le_of_ble_eq_true rfl) (Nat.le_of_ble_eq_true rfl) rfl rfl (Nat.le_of_ble_eq_true rfl) rfl rfl ?_
      refine pm_R_lo pm_M199 (pc' := 1) rfl rfl rfl ?_
      refine pm_R_op pm_M199 (pc' := 2) (st' := [.int 0, .ref 41]) rfl rfl rfl ?_
      refine pm_R_put pm_M199 (pc' := 5) (fs' := [.int 0, .ref 42, .ref 43, .ref 44, .ref 45, .ref 46, .ref 47, .ref 48, .ref 49, .ref 50, .int 0, .int 0, .int 0, .int 0, .int 0, .long 0, .int 0, .int 0, .int 0, .ref 51, .ref 52, .int 0, .int 0, .int 0, .int 0, .ref 53, .int 0, .int 0, .ref 54, .ref 55, .ref 56, .int 0, .ref 57, .ref 58, .ref 59, .ref 60, .ref 61, .ref 62, .ref 63, .ref 64, .ref 65, .ref 66, .int 0, .int 0, .int 0, .ref 67, .ref 68, .int 0, .ref 69, .int 0, .int 0, .ref 70, .ref 71]) rfl rfl rfl (hh 41 (Nat.le_of_ble_eq_true rfl)) (Nat.le_of_ble_eq_true rfl) (Nat.le_of_ble_eq_true rfl) (Nat.le_of_ble_eq_true rfl) rfl (Or.inl rfl) rfl rfl ?_
      refine pm_R_lo pm_M199 (pc' := 6) rfl rfl rfl ?_
      refine pm_R_lo pm_M199 (pc' := 7) rfl rfl rfl ?_
      refine pm_R_lo pm_M199 (pc' := 8) rfl rfl rfl ?_
      refine pm_R_cv pm_M199 (pc' := 11) (a := 41) (ra := [.int x2, .int x1]) (rest := []) (ls' := [.ref 41, .int x1, .int x2]) rfl rfl (Or.inl rfl) pm_M200 rfl rfl (Nat.le_of_ble_eq_true rfl) (Nat.le_of_ble_eq_true rfl) rfl rfl (Nat.le_of_ble_eq_true rfl) rfl rfl ?_
      refine pm_R_lo pm_M200 (pc' := 1) rfl rfl rfl ?_
      refine pm_R_op pm_M200 (pc' := 2) (st' := [.int 0, .ref 41]) rfl rfl rfl ?_
      refine pm_R_lo pm_M200 (pc' := 3) rfl rfl rfl ?_
      refine pm_R_cv pm_M200 (pc' := 6) (a := 41) (ra := [.int x1, .int 0]) (rest := []) (ls' := [.ref 41, .int 0, .int x1]) rfl rfl (Or.inl rfl) pm_M177 rfl rfl (Nat.le_of_ble_eq_true rfl) (Nat.le_of_ble_eq_true rfl) rfl rfl (Nat.le_of_ble_eq_true rfl) rfl rfl ?_
      refine pm_R_lo pm_M177 (pc' := 1) rfl rfl rfl ?_
      refine pm_R_op pm_M177 (pc' := 2) (st' := [.int 0, .int x1]) rfl rfl rfl ?_
      refine pm_R_lo pm_M177 (pc' := 3) rfl rfl rfl ?_
      refine pm_R_get pm_M177 (pc' := 6) (v := .ref 46) rfl rfl rfl (Nat.le_of_ble_eq_true rfl) (Nat.le_of_ble_eq_true rfl) rfl rfl ?_
      refine pm_R_lo pm_M177 (pc' := 7) rfl rfl rfl ?_
      refine pm_R_iald pm_M177 (pc' := 8) (v := 0) rfl (hh 46 (Nat.le_of_ble_eq_true rfl)) (Nat.le_of_ble_eq_true rfl) rfl rfl rfl ?_
      refine pm_R_op pm_M177 (pc' := 9) (st' := [.int 1, .int 0, .int 0, .int x1]) rfl rfl rfl ?_
      refine pm_R_op pm_M177 (pc' := 10) (st' := [.int (-1), .int 0, .int x1]) rfl rfl rfl ?_
      refine pm_R_cs pm_M177 (pc' := 13) (ra := [.int (-1), .int 0, .int x1]) (rest := []) (ls' := [.int x1, .int 0, .int (-1)]) rfl rfl (Or.inl rfl) pm_M174 rfl rfl (Nat.le_of_ble_eq_true rfl) rfl rfl ?_
      refine pm_R_lo pm_M174 (pc' := 1) rfl rfl rfl ?_
      refine pm_R_lo pm_M174 (pc' := 2) rfl rfl rfl ?_
      refine pm_R_icmp pm_M174 (t := 14) (pc' := 5) rfl rfl rfl (fun c_5 => ?_) (fun c_5 => by exact absurd c_1 c_5)
      refine pm_R_op pm_M174 (pc' := 15) (st' := [.int 0]) rfl rfl rfl ?_
      refine pm_R_ret pm_M174 (r := some (.int 0)) rfl rfl ?_
      show pm_R _ 177 13 [.ref 41, .int 0, .int x1] [.int 0] _ _
      refine pm_R_ret pm_M177 (r := some (.int 0)) rfl rfl ?_
      show pm_R _ 200 6 [.ref 41, .int x1, .int x2] [.int 0] _ _
      refine pm_R_br pm_M200 (pc' := 18) (st' := []) rfl rfl ?_
      refine pm_R_op pm_M200 (pc' := 19) (st' := [.int 0]) rfl rfl rfl ?_
      refine pm_R_ret pm_M200 (r := some (.int 0)) rfl rfl ?_
      show pm_R _ 199 11 [.ref 41, .int x1, .int x2, .int x3, .int x4, .int x5] [.int 0] _ _
      refine pm_R_br pm_M199 (pc' := 54) (st' := []) rfl rfl ?_
      refine pm_R_ldc2 pm_M199 (pc' := 57) rfl rfl rfl ?_
      refine pm_R_ret pm_M199 (r := some (.long (-1))) rfl rfl ?_
      show pm_R _ 0 572 [.ref 0, .ref 16, .ref 41, .int 0] [.long (-1), .long (-1)] _ _
      refine pm_R_op pm_M0 (pc' := 573) (st' := [.int 0]) (pm_q0_5 (Nat.le_of_ble_eq_true rfl)) rfl rfl ?_
      refine pm_R_br pm_M0 (pc' := 2121) (st' := []) (pm_q0_5 (Nat.le_of_ble_eq_true rfl)) rfl ?_
      exact p1_tail (hh 0 (Nat.le_of_ble_eq_true rfl)) (Nat.le_of_ble_eq_true rfl) (Nat.le_of_ble_eq_true rfl) (Nat.le_of_ble_eq_true rfl)
  · refine pm_R_lo pm_M62 (pc' := 5) rfl rfl rfl ?_
    refine pm_R_lo pm_M62 (pc' := 6) rfl rfl rfl ?_
    refine pm_R_get pm_M62 (pc' := 9) (v := .ref 17) rfl rfl (hh 16 (Nat.le_of_ble_eq_true rfl)) (Nat.le_of_ble_eq_true rfl) (Nat.le_of_ble_eq_true rfl) rfl rfl ?_
    refine pm_R_get pm_M62 (pc' := 12) (v := .ref 23) rfl rfl (hh 17 (Nat.le_of_ble_eq_true rfl)) (Nat.le_of_ble_eq_true rfl) (Nat.le_of_ble_eq_true rfl) rfl rfl ?_
    refine pm_R_op pm_M62 (pc' := 13) (st' := [.int 0, .ref 23, .int x1]) rfl rfl rfl ?_
    refine pm_R_iald pm_M62 (pc' := 14) (v := 0) rfl (hh 23 (Nat.le_of_ble_eq_true rfl)) (Nat.le_of_ble_eq_true rfl) rfl rfl rfl ?_
    refine pm_R_icmp pm_M62 (t := 21) (pc' := 17) rfl rfl rfl (fun c_6 => by exact absurd c_6 c_1) (fun c_6 => ?_)
    refine pm_R_op pm_M62 (pc' := 18) (st' := [.null]) rfl rfl rfl ?_
    refine pm_R_br pm_M62 (pc' := 30) rfl rfl ?_
    refine pm_R_ret pm_M62 (r := some (.null)) rfl rfl ?_
    show pm_R _ 68 5 [.ref 16, .int x1, .int x2, .int x3, .int x4, .int x5, pm_no, pm_no] [.null] _ _
    refine pm_R_lo pm_M68 (pc' := 7) (ls' := [.ref 16, .int x1, .int x2, .int x3, .int x4, .int x5, .null, pm_no]) (st' := []) rfl rfl rfl ?_
    refine pm_R_lo pm_M68 (pc' := 8) rfl rfl rfl ?_
    refine pm_R_lo pm_M68 (pc' := 9) rfl rfl rfl ?_
    refine pm_R_cv pm_M68 (pc' := 12) (a := 16) (ra := [.int x2]) (rest := []) (ls' := [.ref 16, .int x2]) rfl rfl (Or.inl rfl) pm_M66 (hh 16 (Nat.le_of_ble_eq_true rfl)) rfl (Nat.le_of_ble_eq_true rfl) (Nat.le_of_ble_eq_true rfl) rfl rfl (Nat.le_of_ble_eq_true rfl) rfl rfl ?_
    refine pm_R_lo pm_M66 (pc' := 1) rfl rfl rfl ?_
    refine pm_R_ifc pm_M66 (t := 17) (pc' := 4) rfl rfl rfl (fun c_7 => ?_) (fun c_7 => ?_)
    · refine pm_R_op pm_M66 (pc' := 18) (st' := [.null]) rfl rfl rfl ?_
      refine pm_R_br pm_M66 (pc' := 30) rfl rfl ?_
      refine pm_R_ret pm_M66 (r := some (.null)) rfl rfl ?_
      show pm_R _ 68 12 [.ref 16, .int x1, .int x2, .int x3, .int x4, .int x5, .null, pm_no] [.null] _ _
      refine pm_R_lo pm_M68 (pc' := 14) (ls' := [.ref 16, .int x1, .int x2, .int x3, .int x4, .int x5, .null, .null]) (st' := []) rfl rfl rfl ?_
      refine pm_R_lo pm_M68 (pc' := 16) rfl rfl rfl ?_
      refine pm_R_br pm_M68 (pc' := 46) rfl rfl ?_
      refine pm_R_ldc2 pm_M68 (pc' := 49) rfl rfl rfl ?_
      refine pm_R_ret pm_M68 (r := some (.long (-1))) rfl rfl ?_
      show pm_R _ 0 543 [.ref 0, .ref 16, .ref 41, .int 0] [.long (-1)] _ _
      refine pm_R_lo pm_M0 (pc' := 544) (pm_q0_4 (Nat.le_of_ble_eq_true rfl)) rfl rfl ?_
      refine pm_R_lo pm_M0 (pc' := 545) (pm_q0_4 (Nat.le_of_ble_eq_true rfl)) rfl rfl ?_
      refine pm_R_lo pm_M0 (pc' := 546) (pm_q0_4 (Nat.le_of_ble_eq_true rfl)) rfl rfl ?_
      refine pm_R_op pm_M0 (pc' := 547) (st' := [.int 1, .int 0, .ref 0, .ref 41, .long (-1)]) (pm_q0_4 (Nat.le_of_ble_eq_true rfl)) rfl rfl ?_
      refine pm_R_op pm_M0 (pc' := 548) (st' := [.int 1, .ref 0, .ref 41, .long (-1)]) (pm_q0_4 (Nat.le_of_ble_eq_true rfl)) rfl rfl ?_
      refine pm_R_iald pm_M0 (pc' := 549) (v := x1) (pm_q0_5 (Nat.le_of_ble_eq_true rfl)) (hh 0 (Nat.le_of_ble_eq_true rfl)) (Nat.le_of_ble_eq_true rfl) rfl hx1 rfl ?_
      refine pm_R_lo pm_M0 (pc' := 550) (pm_q0_5 (Nat.le_of_ble_eq_true rfl)) rfl rfl ?_
      refine pm_R_lo pm_M0 (pc' := 551) (pm_q0_5 (Nat.le_of_ble_eq_true rfl)) rfl rfl ?_
      refine pm_R_op pm_M0 (pc' := 552) (st' := [.int 2, .int 0, .ref 0, .int x1, .ref 41, .long (-1)]) (pm_q0_5 (Nat.le_of_ble_eq_true rfl)) rfl rfl ?_
      refine pm_R_op pm_M0 (pc' := 553) (st' := [.int 2, .ref 0, .int x1, .ref 41, .long (-1)]) (pm_q0_5 (Nat.le_of_ble_eq_true rfl)) rfl rfl ?_
      refine pm_R_iald pm_M0 (pc' := 554) (v := x2) (pm_q0_5 (Nat.le_of_ble_eq_true rfl)) (hh 0 (Nat.le_of_ble_eq_true rfl)) (Nat.le_of_ble_eq_true rfl) rfl hx2 rfl ?_
      refine pm_R_lo pm_M0 (pc' := 555) (pm_q0_5 (Nat.le_of_ble_eq_true rfl)) rfl rfl ?_
      refine pm_R_lo pm_M0 (pc' := 556) (pm_q0_5 (Nat.le_of_ble_eq_true rfl)) rfl rfl ?_
      refine pm_R_op pm_M0 (pc' := 557) (st' := [.int 3, .int 0, .ref 0, .int x2, .int x1, .ref 41, .long (-1)]) (pm_q0_5 (Nat.le_of_ble_eq_true rfl)) rfl rfl ?_
      refine pm_R_op pm_M0 (pc' := 558) (st' := [.int 3, .ref 0, .int x2, .int x1, .ref 41, .long (-1)]) (pm_q0_5 (Nat.le_of_ble_eq_true rfl)) rfl rfl ?_
      refine pm_R_iald pm_M0 (pc' := 559) (v := x3) (pm_q0_5 (Nat.le_of_ble_eq_true rfl)) (hh 0 (Nat.le_of_ble_eq_true rfl)) (Nat.le_of_ble_eq_true rfl) rfl hx3 rfl ?_
      refine pm_R_lo pm_M0 (pc' := 560) (pm_q0_5 (Nat.le_of_ble_eq_true rfl)) rfl rfl ?_
      refine pm_R_lo pm_M0 (pc' := 561) (pm_q0_5 (Nat.le_of_ble_eq_true rfl)) rfl rfl ?_
      refine pm_R_op pm_M0 (pc' := 562) (st' := [.int 4, .int 0, .ref 0, .int x3, .int x2, .int x1, .ref 41, .long (-1)]) (pm_q0_5 (Nat.le_of_ble_eq_true rfl)) rfl rfl ?_
      refine pm_R_op pm_M0 (pc' := 563) (st' := [.int 4, .ref 0, .int x3, .int x2, .int x1, .ref 41, .long (-1)]) (pm_q0_5 (Nat.le_of_ble_eq_true rfl)) rfl rfl ?_
      refine pm_R_iald pm_M0 (pc' := 564) (v := x4) (pm_q0_5 (Nat.le_of_ble_eq_true rfl)) (hh 0 (Nat.le_of_ble_eq_true rfl)) (Nat.le_of_ble_eq_true rfl) rfl hx4 rfl ?_
      refine pm_R_lo pm_M0 (pc' := 565) (pm_q0_5 (Nat.le_of_ble_eq_true rfl)) rfl rfl ?_
      refine pm_R_lo pm_M0 (pc' := 566) (pm_q0_5 (Nat.le_of_ble_eq_true rfl)) rfl rfl ?_
      refine pm_R_op pm_M0 (pc' := 567) (st' := [.int 5, .int 0, .ref 0, .int x4, .int x3, .int x2, .int x1, .ref 41, .long (-1)]) (pm_q0_5 (Nat.le_of_ble_eq_true rfl)) rfl rfl ?_
      refine pm_R_op pm_M0 (pc' := 568) (st' := [.int 5, .ref 0, .int x4, .int x3, .int x2, .int x1, .ref 41, .long (-1)]) (pm_q0_5 (Nat.le_of_ble_eq_true rfl)) rfl rfl ?_
      refine pm_R_iald pm_M0 (pc' := 569) (v := x5) (pm_q0_5 (Nat.le_of_ble_eq_true rfl)) (hh 0 (Nat.le_of_ble_eq_true rfl)) (Nat.le_of_ble_eq_true rfl) rfl hx5 rfl ?_
      refine pm_R_cv pm_M0 (pc' := 572) (a := 41) (ra := [.int x5, .int x4, .int x3, .int x2, .int x1]) (rest := [.long (-1)]) (ls' := [.ref 41, .int x1, .int x2, .int x3, .int x4, .int x5]) (pm_q0_5 (Nat.le_of_ble_eq_true rfl)) rfl (Or.inl rfl) pm_M199 (hh 41 (Nat.le_of_ble_eq_true rfl)) rfl (Nat.le_of_ble_eq_true rfl) (Nat.le_of_ble_eq_true rfl) rfl rfl (Nat.le_of_ble_eq_true rfl) rfl rfl ?_
      refine pm_R_lo pm_M199 (pc' := 1) rfl rfl rfl ?_
      refine pm_R_op pm_M199 (pc' := 2) (st' := [.int 0, .ref 41]) rfl rfl rfl ?_
      refine pm_R_put pm_M199 (pc' := 5) (fs' := [.int 0, .ref 42, .ref 43, .ref 44, .ref 45, .ref 46, .ref 47, .ref 48, .ref 49, .ref 50, .int 0, .int 0, .int 0, .int 0, .int 0, .long 0, .int 0, .int 0, .int 0, .ref 51, .ref 52, .int 0, .int 0, .int 0, .int 0, .ref 53, .int 0, .int 0, .ref 54, .ref 55, .ref 56, .int 0, .ref 57, .ref 58, .ref 59, .ref 60, .ref 61, .ref 62, .ref 63, .ref 64, .ref 65, .ref 66, .int 0, .int 0, .int 0, .ref 67, .ref 68, .int 0, .ref 69, .int 0, .int 0, .ref 70, .ref 71]) rfl rfl rfl (hh 41 (Nat.le_of_ble_eq_true rfl)) (Nat.le_of_ble_eq_true rfl) (Nat.le_of_ble_eq_true rfl) (Nat.le_of_ble_eq_true rfl) rfl (Or.inl rfl) rfl rfl ?_
      refine pm_R_lo pm_M199 (pc' := 6) rfl rfl rfl ?_
      refine pm_R_lo pm_M199 (pc' := 7) rfl rfl rfl ?_
      refine pm_R_lo pm_M199 (pc' := 8) rfl rfl rfl ?_
      refine pm_R_cv pm_M199 (pc' := 11) (a := 41) (ra := [.int x2, .int x1]) (rest := []) (ls' := [.ref 41, .int x1, .int x2]) rfl rfl (Or.inl rfl) pm_M200 rfl rfl (Nat.le_of_ble_eq_true rfl) (Nat.le_of_ble_eq_true rfl) rfl rfl (Nat.le_of_ble_eq_true rfl) rfl rfl ?_
      refine pm_R_lo pm_M200 (pc' := 1) rfl rfl rfl ?_
      refine pm_R_op pm_M200 (pc' := 2) (st' := [.int 0, .ref 41]) rfl rfl rfl ?_
      refine pm_R_lo pm_M200 (pc' := 3) rfl rfl rfl ?_
      refine pm_R_cv pm_M200 (pc' := 6) (a := 41) (ra := [.int x1, .int 0]) (rest := []) (ls' := [.ref 41, .int 0, .int x1]) rfl rfl (Or.inl rfl) pm_M177 rfl rfl (Nat.le_of_ble_eq_true rfl) (Nat.le_of_ble_eq_true rfl) rfl rfl (Nat.le_of_ble_eq_true rfl) rfl rfl ?_
      refine pm_R_lo pm_M177 (pc' := 1) rfl rfl rfl ?_
      refine pm_R_op pm_M177 (pc' := 2) (st' := [.int 0, .int x1]) rfl rfl rfl ?_
      refine pm_R_lo pm_M177 (pc' := 3) rfl rfl rfl ?_
      refine pm_R_get pm_M177 (pc' := 6) (v := .ref 46) rfl rfl rfl (Nat.le_of_ble_eq_true rfl) (Nat.le_of_ble_eq_true rfl) rfl rfl ?_
      refine pm_R_lo pm_M177 (pc' := 7) rfl rfl rfl ?_
      refine pm_R_iald pm_M177 (pc' := 8) (v := 0) rfl (hh 46 (Nat.le_of_ble_eq_true rfl)) (Nat.le_of_ble_eq_true rfl) rfl rfl rfl ?_
      refine pm_R_op pm_M177 (pc' := 9) (st' := [.int 1, .int 0, .int 0, .int x1]) rfl rfl rfl ?_
      refine pm_R_op pm_M177 (pc' := 10) (st' := [.int (-1), .int 0, .int x1]) rfl rfl rfl ?_
      refine pm_R_cs pm_M177 (pc' := 13) (ra := [.int (-1), .int 0, .int x1]) (rest := []) (ls' := [.int x1, .int 0, .int (-1)]) rfl rfl (Or.inl rfl) pm_M174 rfl rfl (Nat.le_of_ble_eq_true rfl) rfl rfl ?_
      refine pm_R_lo pm_M174 (pc' := 1) rfl rfl rfl ?_
      refine pm_R_lo pm_M174 (pc' := 2) rfl rfl rfl ?_
      refine pm_R_icmp pm_M174 (t := 14) (pc' := 5) rfl rfl rfl (fun c_8 => by exact absurd c_8 c_1) (fun c_8 => ?_)
      refine pm_R_lo pm_M174 (pc' := 6) rfl rfl rfl ?_
      refine pm_R_lo pm_M174 (pc' := 7) rfl rfl rfl ?_
      refine pm_R_icmp pm_M174 (t := 14) (pc' := 10) rfl rfl rfl (fun c_9 => ?_) (fun c_9 => by have z0 : ((-1) : Int32).toInt = -1 := (by decide); have z1 : ((0) : Int32).toInt = 0 := (by decide); have q0 := (Int32.le_iff_toInt_le.mp (Int32.not_lt.mp c_1)); have q1 := (Int32.le_iff_toInt_le.mp (Int32.not_lt.mp c_9)); exfalso; omega)
      refine pm_R_op pm_M174 (pc' := 15) (st' := [.int 0]) rfl rfl rfl ?_
      refine pm_R_ret pm_M174 (r := some (.int 0)) rfl rfl ?_
      show pm_R _ 177 13 [.ref 41, .int 0, .int x1] [.int 0] _ _
      refine pm_R_ret pm_M177 (r := some (.int 0)) rfl rfl ?_
      show pm_R _ 200 6 [.ref 41, .int x1, .int x2] [.int 0] _ _
      refine pm_R_br pm_M200 (pc' := 18) (st' := []) rfl rfl ?_
      refine pm_R_op pm_M200 (pc' := 19) (st' := [.int 0]) rfl rfl rfl ?_
      refine pm_R_ret pm_M200 (r := some (.int 0)) rfl rfl ?_
      show pm_R _ 199 11 [.ref 41, .int x1, .int x2, .int x3, .int x4, .int x5] [.int 0] _ _
      refine pm_R_br pm_M199 (pc' := 54) (st' := []) rfl rfl ?_
      refine pm_R_ldc2 pm_M199 (pc' := 57) rfl rfl rfl ?_
      refine pm_R_ret pm_M199 (r := some (.long (-1))) rfl rfl ?_
      show pm_R _ 0 572 [.ref 0, .ref 16, .ref 41, .int 0] [.long (-1), .long (-1)] _ _
      refine pm_R_op pm_M0 (pc' := 573) (st' := [.int 0]) (pm_q0_5 (Nat.le_of_ble_eq_true rfl)) rfl rfl ?_
      refine pm_R_br pm_M0 (pc' := 2121) (st' := []) (pm_q0_5 (Nat.le_of_ble_eq_true rfl)) rfl ?_
      exact p1_tail (hh 0 (Nat.le_of_ble_eq_true rfl)) (Nat.le_of_ble_eq_true rfl) (Nat.le_of_ble_eq_true rfl) (Nat.le_of_ble_eq_true rfl)
    · refine pm_R_lo pm_M66 (pc' := 5) rfl rfl rfl ?_
      refine pm_R_lo pm_M66 (pc' := 6) rfl rfl rfl ?_
      refine pm_R_get pm_M66 (pc' := 9) (v := .ref 17) rfl rfl (hh 16 (Nat.le_of_ble_eq_true rfl)) (Nat.le_of_ble_eq_true rfl) (Nat.le_of_ble_eq_true rfl) rfl rfl ?_
      refine pm_R_get pm_M66 (pc' := 12) (v := .ref 23) rfl rfl (hh 17 (Nat.le_of_ble_eq_true rfl)) (Nat.le_of_ble_eq_true rfl) (Nat.le_of_ble_eq_true rfl) rfl rfl ?_
      refine pm_R_op pm_M66 (pc' := 13) (st' := [.int 1, .ref 23, .int x2]) rfl rfl rfl ?_
      refine pm_R_iald pm_M66 (pc' := 14) (v := 0) rfl (hh 23 (Nat.le_of_ble_eq_true rfl)) (Nat.le_of_ble_eq_true rfl) rfl rfl rfl ?_
      refine pm_R_icmp pm_M66 (t := 21) (pc' := 17) rfl rfl rfl (fun c_10 => by exact absurd c_10 c_7) (fun c_10 => ?_)
      refine pm_R_op pm_M66 (pc' := 18) (st' := [.null]) rfl rfl rfl ?_
      refine pm_R_br pm_M66 (pc' := 30) rfl rfl ?_
      refine pm_R_ret pm_M66 (r := some (.null)) rfl rfl ?_
      show pm_R _ 68 12 [.ref 16, .int x1, .int x2, .int x3, .int x4, .int x5, .null, pm_no] [.null] _ _
      refine pm_R_lo pm_M68 (pc' := 14) (ls' := [.ref 16, .int x1, .int x2, .int x3, .int x4, .int x5, .null, .null]) (st' := []) rfl rfl rfl ?_
      refine pm_R_lo pm_M68 (pc' := 16) rfl rfl rfl ?_
      refine pm_R_br pm_M68 (pc' := 46) rfl rfl ?_
      refine pm_R_ldc2 pm_M68 (pc' := 49) rfl rfl rfl ?_
      refine pm_R_ret pm_M68 (r := some (.long (-1))) rfl rfl ?_
      show pm_R _ 0 543 [.ref 0, .ref 16, .ref 41, .int 0] [.long (-1)] _ _
      refine pm_R_lo pm_M0 (pc' := 544) (pm_q0_4 (Nat.le_of_ble_eq_true rfl)) rfl rfl ?_
      refine pm_R_lo pm_M0 (pc' := 545) (pm_q0_4 (Nat.le_of_ble_eq_true rfl)) rfl rfl ?_
      refine pm_R_lo pm_M0 (pc' := 546) (pm_q0_4 (Nat.le_of_ble_eq_true rfl)) rfl rfl ?_
      refine pm_R_op pm_M0 (pc' := 547) (st' := [.int 1, .int 0, .ref 0, .ref 41, .long (-1)]) (pm_q0_4 (Nat.le_of_ble_eq_true rfl)) rfl rfl ?_
      refine pm_R_op pm_M0 (pc' := 548) (st' := [.int 1, .ref 0, .ref 41, .long (-1)]) (pm_q0_4 (Nat.le_of_ble_eq_true rfl)) rfl rfl ?_
      refine pm_R_iald pm_M0 (pc' := 549) (v := x1) (pm_q0_5 (Nat.le_of_ble_eq_true rfl)) (hh 0 (Nat.le_of_ble_eq_true rfl)) (Nat.le_of_ble_eq_true rfl) rfl hx1 rfl ?_
      refine pm_R_lo pm_M0 (pc' := 550) (pm_q0_5 (Nat.le_of_ble_eq_true rfl)) rfl rfl ?_
      refine pm_R_lo pm_M0 (pc' := 551) (pm_q0_5 (Nat.le_of_ble_eq_true rfl)) rfl rfl ?_
      refine pm_R_op pm_M0 (pc' := 552) (st' := [.int 2, .int 0, .ref 0, .int x1, .ref 41, .long (-1)]) (pm_q0_5 (Nat.le_of_ble_eq_true rfl)) rfl rfl ?_
      refine pm_R_op pm_M0 (pc' := 553) (st' := [.int 2, .ref 0, .int x1, .ref 41, .long (-1)]) (pm_q0_5 (Nat.le_of_ble_eq_true rfl)) rfl rfl ?_
      refine pm_R_iald pm_M0 (pc' := 554) (v := x2) (pm_q0_5 (Nat.le_of_ble_eq_true rfl)) (hh 0 (Nat.le_of_ble_eq_true rfl)) (Nat.le_of_ble_eq_true rfl) rfl hx2 rfl ?_
      refine pm_R_lo pm_M0 (pc' := 555) (pm_q0_5 (Nat.le_of_ble_eq_true rfl)) rfl rfl ?_
      refine pm_R_lo pm_M0 (pc' := 556) (pm_q0_5 (Nat.le_of_ble_eq_true rfl)) rfl rfl ?_
      refine pm_R_op pm_M0 (pc' := 557) (st' := [.int 3, .int 0, .ref 0, .int x2, .int x1, .ref 41, .long (-1)]) (pm_q0_5 (Nat.le_of_ble_eq_true rfl)) rfl rfl ?_
      refine pm_R_op pm_M0 (pc' := 558) (st' := [.int 3, .ref 0, .int x2, .int x1, .ref 41, .long (-1)]) (pm_q0_5 (Nat.le_of_ble_eq_true rfl)) rfl rfl ?_
      refine pm_R_iald pm_M0 (pc' := 559) (v := x3) (pm_q0_5 (Nat.le_of_ble_eq_true rfl)) (hh 0 (Nat.le_of_ble_eq_true rfl)) (Nat.le_of_ble_eq_true rfl) rfl hx3 rfl ?_
      refine pm_R_lo pm_M0 (pc' := 560) (pm_q0_5 (Nat.le_of_ble_eq_true rfl)) rfl rfl ?_
      refine pm_R_lo pm_M0 (pc' := 561) (pm_q0_5 (Nat.le_of_ble_eq_true rfl)) rfl rfl ?_
      refine pm_R_op pm_M0 (pc' := 562) (st' := [.int 4, .int 0, .ref 0, .int x3, .int x2, .int x1, .ref 41, .long (-1)]) (pm_q0_5 (Nat.le_of_ble_eq_true rfl)) rfl rfl ?_
      refine pm_R_op pm_M0 (pc' := 563) (st' := [.int 4, .ref 0, .int x3, .int x2, .int x1, .ref 41, .long (-1)]) (pm_q0_5 (Nat.le_of_ble_eq_true rfl)) rfl rfl ?_
      refine pm_R_iald pm_M0 (pc' := 564) (v := x4) (pm_q0_5 (Nat.le_of_ble_eq_true rfl)) (hh 0 (Nat.le_of_ble_eq_true rfl)) (Nat.le_of_ble_eq_true rfl) rfl hx4 rfl ?_
      refine pm_R_lo pm_M0 (pc' := 565) (pm_q0_5 (Nat.le_of_ble_eq_true rfl)) rfl rfl ?_
      refine pm_R_lo pm_M0 (pc' := 566) (pm_q0_5 (Nat.le_of_ble_eq_true rfl)) rfl rfl ?_
      refine pm_R_op pm_M0 (pc' := 567) (st' := [.int 5, .int 0, .ref 0, .int x4, .int x3, .int x2, .int x1, .ref 41, .long (-1)]) (pm_q0_5 (Nat.le_of_ble_eq_true rfl)) rfl rfl ?_
      refine pm_R_op pm_M0 (pc' := 568) (st' := [.int 5, .ref 0, .int x4, .int x3, .int x2, .int x1, .ref 41, .long (-1)]) (pm_q0_5 (Nat.le_of_ble_eq_true rfl)) rfl rfl ?_
      refine pm_R_iald pm_M0 (pc' := 569) (v := x5) (pm_q0_5 (Nat.le_of_ble_eq_true rfl)) (hh 0 (Nat.le_of_ble_eq_true rfl)) (Nat.le_of_ble_eq_true rfl) rfl hx5 rfl ?_
      refine pm_R_cv pm_M0 (pc' := 572) (a := 41) (ra := [.int x5, .int x4, .int x3, .int x2, .int x1]) (rest := [.long (-1)]) (ls' := [.ref 41, .int x1, .int x2, .int x3, .int x4, .int x5]) (pm_q0_5 (Nat.le_of_ble_eq_true rfl)) rfl (Or.inl rfl) pm_M199 (hh 41 (Nat.le_of_ble_eq_true rfl)) rfl (Nat.le_of_ble_eq_true rfl) (Nat.le_of_ble_eq_true rfl) rfl rfl (Nat.le_of_ble_eq_true rfl) rfl rfl ?_
      refine pm_R_lo pm_M199 (pc' := 1) rfl rfl rfl ?_
      refine pm_R_op pm_M199 (pc' := 2) (st' := [.int 0, .ref 41]) rfl rfl rfl ?_
      refine pm_R_put pm_M199 (pc' := 5) (fs' := [.int 0, .ref 42, .ref 43, .ref 44, .ref 45, .ref 46, .ref 47, .ref 48, .ref 49, .ref 50, .int 0, .int 0, .int 0, .int 0, .int 0, .long 0, .int 0, .int 0, .int 0, .ref 51, .ref 52, .int 0, .int 0, .int 0, .int 0, .ref 53, .int 0, .int 0, .ref 54, .ref 55, .ref 56, .int 0, .ref 57, .ref 58, .ref 59, .ref 60, .ref 61, .ref 62, .ref 63, .ref 64, .ref 65, .ref 66, .int 0, .int 0, .int 0, .ref 67, .ref 68, .int 0, .ref 69, .int 0, .int 0, .ref 70, .ref 71]) rfl rfl rfl (hh 41 (Nat.le_of_ble_eq_true rfl)) (Nat.le_of_ble_eq_true rfl) (Nat.le_of_ble_eq_true rfl) (Nat.le_of_ble_eq_true rfl) rfl (Or.inl rfl) rfl rfl ?_
      refine pm_R_lo pm_M199 (pc' := 6) rfl rfl rfl ?_
      refine pm_R_lo pm_M199 (pc' := 7) rfl rfl rfl ?_
      refine pm_R_lo pm_M199 (pc' := 8) rfl rfl rfl ?_
      refine pm_R_cv pm_M199 (pc' := 11) (a := 41) (ra := [.int x2, .int x1]) (rest := []) (ls' := [.ref 41, .int x1, .int x2]) rfl rfl (Or.inl rfl) pm_M200 rfl rfl (Nat.le_of_ble_eq_true rfl) (Nat.le_of_ble_eq_true rfl) rfl rfl (Nat.le_of_ble_eq_true rfl) rfl rfl ?_
      refine pm_R_lo pm_M200 (pc' := 1) rfl rfl rfl ?_
      refine pm_R_op pm_M200 (pc' := 2) (st' := [.int 0, .ref 41]) rfl rfl rfl ?_
      refine pm_R_lo pm_M200 (pc' := 3) rfl rfl rfl ?_
      refine pm_R_cv pm_M200 (pc' := 6) (a := 41) (ra := [.int x1, .int 0]) (rest := []) (ls' := [.ref 41, .int 0, .int x1]) rfl rfl (Or.inl rfl) pm_M177 rfl rfl (Nat.le_of_ble_eq_true rfl) (Nat.le_of_ble_eq_true rfl) rfl rfl (Nat.le_of_ble_eq_true rfl) rfl rfl ?_
      refine pm_R_lo pm_M177 (pc' := 1) rfl rfl rfl ?_
      refine pm_R_op pm_M177 (pc' := 2) (st' := [.int 0, .int x1]) rfl rfl rfl ?_
      refine pm_R_lo pm_M177 (pc' := 3) rfl rfl rfl ?_
      refine pm_R_get pm_M177 (pc' := 6) (v := .ref 46) rfl rfl rfl (Nat.le_of_ble_eq_true rfl) (Nat.le_of_ble_eq_true rfl) rfl rfl ?_
      refine pm_R_lo pm_M177 (pc' := 7) rfl rfl rfl ?_
      refine pm_R_iald pm_M177 (pc' := 8) (v := 0) rfl (hh 46 (Nat.le_of_ble_eq_true rfl)) (Nat.le_of_ble_eq_true rfl) rfl rfl rfl ?_
      refine pm_R_op pm_M177 (pc' := 9) (st' := [.int 1, .int 0, .int 0, .int x1]) rfl rfl rfl ?_
      refine pm_R_op pm_M177 (pc' := 10) (st' := [.int (-1), .int 0, .int x1]) rfl rfl rfl ?_
      refine pm_R_cs pm_M177 (pc' := 13) (ra := [.int (-1), .int 0, .int x1]) (rest := []) (ls' := [.int x1, .int 0, .int (-1)]) rfl rfl (Or.inl rfl) pm_M174 rfl rfl (Nat.le_of_ble_eq_true rfl) rfl rfl ?_
      refine pm_R_lo pm_M174 (pc' := 1) rfl rfl rfl ?_
      refine pm_R_lo pm_M174 (pc' := 2) rfl rfl rfl ?_
      refine pm_R_icmp pm_M174 (t := 14) (pc' := 5) rfl rfl rfl (fun c_11 => by exact absurd c_11 c_1) (fun c_11 => ?_)
      refine pm_R_lo pm_M174 (pc' := 6) rfl rfl rfl ?_
      refine pm_R_lo pm_M174 (pc' := 7) rfl rfl rfl ?_
      refine pm_R_icmp pm_M174 (t := 14) (pc' := 10) rfl rfl rfl (fun c_12 => ?_) (fun c_12 => by have z0 : ((-1) : Int32).toInt = -1 := (by decide); have z1 : ((0) : Int32).toInt = 0 := (by decide); have q0 := (Int32.le_iff_toInt_le.mp (Int32.not_lt.mp c_1)); have q1 := (Int32.le_iff_toInt_le.mp (Int32.not_lt.mp c_12)); exfalso; omega)
      refine pm_R_op pm_M174 (pc' := 15) (st' := [.int 0]) rfl rfl rfl ?_
      refine pm_R_ret pm_M174 (r := some (.int 0)) rfl rfl ?_
      show pm_R _ 177 13 [.ref 41, .int 0, .int x1] [.int 0] _ _
      refine pm_R_ret pm_M177 (r := some (.int 0)) rfl rfl ?_
      show pm_R _ 200 6 [.ref 41, .int x1, .int x2] [.int 0] _ _
      refine pm_R_br pm_M200 (pc' := 18) (st' := []) rfl rfl ?_
      refine pm_R_op pm_M200 (pc' := 19) (st' := [.int 0]) rfl rfl rfl ?_
      refine pm_R_ret pm_M200 (r := some (.int 0)) rfl rfl ?_
      show pm_R _ 199 11 [.ref 41, .int x1, .int x2, .int x3, .int x4, .int x5] [.int 0] _ _
      refine pm_R_br pm_M199 (pc' := 54) (st' := []) rfl rfl ?_
      refine pm_R_ldc2 pm_M199 (pc' := 57) rfl rfl rfl ?_
      refine pm_R_ret pm_M199 (r := some (.long (-1))) rfl rfl ?_
      show pm_R _ 0 572 [.ref 0, .ref 16, .ref 41, .int 0] [.long (-1), .long (-1)] _ _
      refine pm_R_op pm_M0 (pc' := 573) (st' := [.int 0]) (pm_q0_5 (Nat.le_of_ble_eq_true rfl)) rfl rfl ?_
      refine pm_R_br pm_M0 (pc' := 2121) (st' := []) (pm_q0_5 (Nat.le_of_ble_eq_true rfl)) rfl ?_
      exact p1_tail (hh 0 (Nat.le_of_ble_eq_true rfl)) (Nat.le_of_ble_eq_true rfl) (Nat.le_of_ble_eq_true rfl) (Nat.le_of_ble_eq_true rfl)
