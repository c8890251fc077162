set_option maxRecDepth 100000 in
set_option maxHeartbeats 40000000 in
theorem p1_c42_lo (xs : Nat → Int32) (f : Nat → pm_E) (hh : ∀ i, i < 72 → f i = pm_fF 7 xs i) (x0 x1 x2 x3 x4 x5 x6 : Int32) (hx0 : xs 0 = x0) (hx1 : xs 1 = x1) (hx2 : xs 2 = x2) (hx3 : xs 3 = x3) (hx4 : xs 4 = x4) (hx5 : xs 5 = x5) (hx6 : xs 6 = x6) (hv : x1 < 0) : pm_R 100 0 2098 [.ref 0, .ref 16, .ref 41, .int 0] [] (72, 52657, f) p1_Q := by
  refine pm_R_lo pm_M0 (pc' := 2099) (pm_q0_27 (Nat.le_of_ble_eq_true rfl)) rfl rfl ?_
  refine pm_R_lo pm_M0 (pc' := 2100) (pm_q0_27 (Nat.le_of_ble_eq_true rfl)) rfl rfl ?_
  refine pm_R_lo pm_M0 (pc' := 2101) (pm_q0_27 (Nat.le_of_ble_eq_true rfl)) rfl rfl ?_
  refine pm_R_op pm_M0 (pc' := 2102) (st' := [.int 1, .int 0, .ref 0, .ref 16]) (pm_q0_27 (Nat.le_of_ble_eq_true rfl)) rfl rfl ?_
  refine pm_R_op pm_M0 (pc' := 2103) (st' := [.int 1, .ref 0, .ref 16]) (pm_q0_27 (Nat.le_of_ble_eq_true rfl)) rfl rfl ?_
  refine pm_R_iald pm_M0 (pc' := 2104) (v := x1) (pm_q0_27 (Nat.le_of_ble_eq_true rfl)) (hh 0 (Nat.le_of_ble_eq_true rfl)) (Nat.le_of_ble_eq_true rfl) rfl hx1 rfl ?_
  refine pm_R_cv pm_M0 (pc' := 2107) (a := 16) (ra := [.int x1]) (rest := []) (ls' := [.ref 16, .int x1]) (pm_q0_27 (Nat.le_of_ble_eq_true rfl)) rfl (Or.inl rfl) pm_M60 (hh 16 (Nat.le_of_ble_eq_true rfl)) rfl (Nat.le_of_ble_eq_true rfl) (Nat.le_of_ble_eq_true rfl) rfl rfl (Nat.le_of_ble_eq_true rfl) rfl rfl ?_
  refine pm_R_lo pm_M60 (pc' := 1) rfl rfl rfl ?_
  refine pm_R_ifc pm_M60 (t := 18) (pc' := 4) rfl rfl rfl (fun c_1 => ?_) (fun c_1 => by exact absurd hv c_1)
  refine pm_R_op pm_M60 (pc' := 19) (st' := [.int 0]) rfl rfl rfl ?_
  refine pm_R_ret pm_M60 (r := some (.int 0)) rfl rfl ?_
  show pm_R _ 0 2107 [.ref 0, .ref 16, .ref 41, .int 0] [.int 0] _ _
  refine pm_R_lo pm_M0 (pc' := 2108) (pm_q0_27 (Nat.le_of_ble_eq_true rfl)) rfl rfl ?_
  refine pm_R_lo pm_M0 (pc' := 2109) (pm_q0_27 (Nat.le_of_ble_eq_true rfl)) rfl rfl ?_
  refine pm_R_lo pm_M0 (pc' := 2110) (pm_q0_27 (Nat.le_of_ble_eq_true rfl)) rfl rfl ?_
  refine pm_R_op pm_M0 (pc' := 2111) (st' := [.int 1, .int 0, .ref 0, .ref 41, .int 0]) (pm_q0_27 (Nat.le_of_ble_eq_true rfl)) rfl rfl ?_
  refine pm_R_op pm_M0 (pc' := 2112) (st' := [.int 1, .ref 0, .ref 41, .int 0]) (pm_q0_27 (Nat.le_of_ble_eq_true rfl)) rfl rfl ?_
  refine pm_R_iald pm_M0 (pc' := 2113) (v := x1) (pm_q0_27 (Nat.le_of_ble_eq_true rfl)) (hh 0 (Nat.le_of_ble_eq_true rfl)) (Nat.le_of_ble_eq_true rfl) rfl hx1 rfl ?_
  refine pm_R_cv pm_M0 (pc' := 2116) (a := 41) (ra := [.int x1]) (rest := [.int 0]) (ls' := [.ref 41, .int x1]) (pm_q0_27 (Nat.le_of_ble_eq_true rfl)) rfl (Or.inl rfl) pm_M298 (hh 41 (Nat.le_of_ble_eq_true rfl)) rfl (Nat.le_of_ble_eq_true rfl) (Nat.le_of_ble_eq_true rfl) rfl rfl (Nat.le_of_ble_eq_true rfl) rfl rfl ?_
  refine pm_R_lo pm_M298 (pc' := 1) rfl rfl rfl ?_
  refine pm_R_op pm_M298 (pc' := 2) (st' := [.int 0, .ref 41]) rfl rfl rfl ?_
  refine pm_R_put pm_M298 (pc' := 5) (fs' := [.int 0, .ref 42, .ref 43, .ref 44, .ref 45, .ref 46, .ref 47, .ref 48, .ref 49, .ref 50, .int 0, .int 0, .int 0, .int 0, .int 0, .long 0, .int 0, .int 0, .int 0, .ref 51, .ref 52, .int 0, .int 0, .int 0, .int 0, .ref 53, .int 0, .int 0, .ref 54, .ref 55, .ref 56, .int 0, .ref 57, .ref 58, .ref 59, .ref 60, .ref 61, .ref 62, .ref 63, .ref 64, .ref 65, .ref 66, .int 0, .int 0, .int 0, .ref 67, .ref 68, .int 0, .ref 69, .int 0, .int 0, .ref 70, .ref 71]) rfl rfl rfl (hh 41 (Nat.le_of_ble_eq_true rfl)) (Nat.le_of_ble_eq_true rfl) (Nat.le_of_ble_eq_true rfl) (Nat.le_of_ble_eq_true rfl) rfl (Or.inl rfl) rfl rfl ?_
  refine pm_R_lo pm_M298 (pc' := 6) rfl rfl rfl ?_
  refine pm_R_op pm_M298 (pc' := 7) (st' := [.int 0, .int x1]) rfl rfl rfl ?_
  refine pm_R_op pm_M298 (pc' := 8) (st' := [.int 2, .int 0, .int x1]) rfl rfl rfl ?_
  refine pm_R_cs pm_M298 (pc' := 11) (ra := [.int 2, .int 0, .int x1]) (rest := []) (ls' := [.int x1, .int 0, .int 2]) rfl rfl (Or.inl rfl) pm_M174 rfl rfl (Nat.le_of_ble_eq_true rfl) rfl rfl ?_
  refine pm_R_lo pm_M174 (pc' := 1) rfl rfl rfl ?_
  refine pm_R_lo pm_M174 (pc' := 2) rfl rfl rfl ?_
  refine pm_R_icmp pm_M174 (t := 14) (pc' := 5) rfl rfl rfl (fun c_2 => ?_) (fun c_2 => by exact absurd hv c_2)
  refine pm_R_op pm_M174 (pc' := 15) (st' := [.int 0]) rfl rfl rfl ?_
  refine pm_R_ret pm_M174 (r := some (.int 0)) rfl rfl ?_
  show pm_R _ 298 11 [.ref 41, .int x1] [.int 0] _ _
  refine pm_R_br pm_M298 (pc' := 23) (st' := []) rfl rfl ?_
  refine pm_R_op pm_M298 (pc' := 24) (st' := [.int 0]) rfl rfl rfl ?_
  refine pm_R_ret pm_M298 (r := some (.int 0)) rfl rfl ?_
  show pm_R _ 0 2116 [.ref 0, .ref 16, .ref 41, .int 0] [.int 0, .int 0] _ _
  refine pm_R_br pm_M0 (pc' := 2121) (st' := []) (pm_q0_27 (Nat.le_of_ble_eq_true rfl)) rfl ?_
  exact p1_tail (hh 0 (Nat.le_of_ble_eq_true rfl)) (Nat.le_of_ble_eq_true rfl) (Nat.le_of_ble_eq_true rfl) (Nat.le_of_ble_eq_true rfl)
set_option maxRecDepth 100000 in
set_option maxHeartbeats 40000000 in
theorem p1_c42_hi (xs : Nat → Int32) (f : Nat → pm_E) (hh : ∀ i, i < 72 → f i = pm_fF 7 xs i) (x0 x1 x2 x3 x4 x5 x6 : Int32) (hx0 : xs 0 = x0) (hx1 : xs 1 = x1) (hx2 : xs 2 = x2) (hx3 : xs 3 = x3) (hx4 : xs 4 = x4) (hx5 : xs 5 = x5) (hx6 : xs 6 = x6) (hv : (3 : Int32) ≤ x1) : pm_R 100 0 2098 [.ref 0, .ref 16, .ref 41, .int 0] [] (72, 52657, f) p1_Q := by
  have hv0 : ¬ x1 < 0 := fun q => absurd (Int32.lt_of_lt_of_le q (by decide : (0 : Int32) ≤ 3)) (fun q2 => absurd hv (Int32.not_le.mpr q2))
  have hv1 : (2 : Int32) < x1 := Int32.lt_of_lt_of_le (by decide) hv
  refine pm_R_lo pm_M0 (pc' := 2099) (pm_q0_27 (Nat.le_of_ble_eq_true rfl)) rfl rfl ?_
  refine pm_R_lo pm_M0 (pc' := 2100) (pm_q0_27 (Nat.le_of_ble_eq_true rfl)) rfl rfl ?_
  refine pm_R_lo pm_M0 (pc' := 2101) (pm_q0_27 (Nat.le_of_ble_eq_true rfl)) rfl rfl ?_
  refine pm_R_op pm_M0 (pc' := 2102) (st' := [.int 1, .int 0, .ref 0, .ref 16]) (pm_q0_27 (Nat.le_of_ble_eq_true rfl)) rfl rfl ?_
  refine pm_R_op pm_M0 (pc' := 2103) (st' := [.int 1, .ref 0, .ref 16]) (pm_q0_27 (Nat.le_of_ble_eq_true rfl)) rfl rfl ?_
  refine pm_R_iald pm_M0 (pc' := 2104) (v := x1) (pm_q0_27 (Nat.le_of_ble_eq_true rfl)) (hh 0 (Nat.le_of_ble_eq_true rfl)) (Nat.le_of_ble_eq_true rfl) rfl hx1 rfl ?_
  refine pm_R_cv pm_M0 (pc' := 2107) (a := 16) (ra := [.int x1]) (rest := []) (ls' := [.ref 16, .int x1]) (pm_q0_27 (Nat.le_of_ble_eq_true rfl)) rfl (Or.inl rfl) pm_M60 (hh 16 (Nat.le_of_ble_eq_true rfl)) rfl (Nat.le_of_ble_eq_true rfl) (Nat.le_of_ble_eq_true rfl) rfl rfl (Nat.le_of_ble_eq_true rfl) rfl rfl ?_
  refine pm_R_lo pm_M60 (pc' := 1) rfl rfl rfl ?_
  refine pm_R_ifc pm_M60 (t := 18) (pc' := 4) rfl rfl rfl (fun c_1 => by exact absurd c_1 hv0) (fun c_1 => ?_)
  refine pm_R_lo pm_M60 (pc' := 5) rfl rfl rfl ?_
  refine pm_R_op pm_M60 (pc' := 6) (st' := [.int 3, .int x1]) rfl rfl rfl ?_
  refine pm_R_icmp pm_M60 (t := 18) (pc' := 9) rfl rfl rfl (fun c_2 => ?_) (fun c_2 => by exact absurd hv c_2)
  refine pm_R_op pm_M60 (pc' := 19) (st' := [.int 0]) rfl rfl rfl ?_
  refine pm_R_ret pm_M60 (r := some (.int 0)) rfl rfl ?_
  show pm_R _ 0 2107 [.ref 0, .ref 16, .ref 41, .int 0] [.int 0] _ _
  refine pm_R_lo pm_M0 (pc' := 2108) (pm_q0_27 (Nat.le_of_ble_eq_true rfl)) rfl rfl ?_
  refine pm_R_lo pm_M0 (pc' := 2109) (pm_q0_27 (Nat.le_of_ble_eq_true rfl)) rfl rfl ?_
  refine pm_R_lo pm_M0 (pc' := 2110) (pm_q0_27 (Nat.le_of_ble_eq_true rfl)) rfl rfl ?_
  refine pm_R_op pm_M0 (pc' := 2111) (st' := [.int 1, .int 0, .ref 0, .ref 41, .int 0]) (pm_q0_27 (Nat.le_of_ble_eq_true rfl)) rfl rfl ?_
  refine pm_R_op pm_M0 (pc' := 2112) (st' := [.int 1, .ref 0, .ref 41, .int 0]) (pm_q0_27 (Nat.le_of_ble_eq_true rfl)) rfl rfl ?_
  refine pm_R_iald pm_M0 (pc' := 2113) (v := x1) (pm_q0_27 (Nat.le_of_ble_eq_true rfl)) (hh 0 (Nat.le_of_ble_eq_true rfl)) (Nat.le_of_ble_eq_true rfl) rfl hx1 rfl ?_
  refine pm_R_cv pm_M0 (pc' := 2116) (a := 41) (ra := [.int x1]) (rest := [.int 0]) (ls' := [.ref 41, .int x1]) (pm_q0_27 (Nat.le_of_ble_eq_true rfl)) rfl (Or.inl rfl) pm_M298 (hh 41 (Nat.le_of_ble_eq_true rfl)) rfl (Nat.le_of_ble_eq_true rfl) (Nat.le_of_ble_eq_true rfl) rfl rfl (Nat.le_of_ble_eq_true rfl) rfl rfl ?_
  refine pm_R_lo pm_M298 (pc' := 1) rfl rfl rfl ?_
  refine pm_R_op pm_M298 (pc' := 2) (st' := [.int 0, .ref 41]) rfl rfl rfl ?_
  refine pm_R_put pm_M298 (pc' := 5) (fs' := [.int 0, .ref 42, .ref 43, .ref 44, .ref 45, .ref 46, .ref 47, .ref 48, .ref 49, .ref 50, .int 0, .int 0, .int 0, .int 0, .int 0, .long 0, .int 0, .int 0, .int 0, .ref 51, .ref 52, .int 0, .int 0, .int 0, .int 0, .ref 53, .int 0, .int 0, .ref 54, .ref 55, .ref 56, .int 0, .ref 57, .ref 58, .ref 59, .ref 60, .ref 61, .ref 62, .ref 63, .ref 64, .ref 65, .ref 66, .int 0, .int 0, .int 0, .ref 67, .ref 68, .int 0, .ref 69, .int 0, .int 0, .ref 70, .ref 71]) rfl rfl rfl (hh 41 (Nat.le_of_ble_eq_true rfl)) (Nat.le_of_ble_eq_true rfl) (Nat.le_of_ble_eq_true rfl) (Nat.le_of_ble_eq_true rfl) rfl (Or.inl rfl) rfl rfl ?_
  refine pm_R_lo pm_M298 (pc' := 6) rfl rfl rfl ?_
  refine pm_R_op pm_M298 (pc' := 7) (st' := [.int 0, .int x1]) rfl rfl rfl ?_
  refine pm_R_op pm_M298 (pc' := 8) (st' := [.int 2, .int 0, .int x1]) rfl rfl rfl ?_
  refine pm_R_cs pm_M298 (pc' := 11) (ra := [.int 2, .int 0, .int x1]) (rest := []) (ls' := [.int x1, .int 0, .int 2]) rfl rfl (Or.inl rfl) pm_M174 rfl rfl (Nat.le_of_ble_eq_true rfl) rfl rfl ?_
  refine pm_R_lo pm_M174 (pc' := 1) rfl rfl rfl ?_
  refine pm_R_lo pm_M174 (pc' := 2) rfl rfl rfl ?_
  refine pm_R_icmp pm_M174 (t := 14) (pc' := 5) rfl rfl rfl (fun c_3 => by exact absurd c_3 hv0) (fun c_3 => ?_)
  refine pm_R_lo pm_M174 (pc' := 6) rfl rfl rfl ?_
  refine pm_R_lo pm_M174 (pc' := 7) rfl rfl rfl ?_
  refine pm_R_icmp pm_M174 (t := 14) (pc' := 10) rfl rfl rfl (fun c_4 => ?_) (fun c_4 => by exact absurd hv1 c_4)
  refine pm_R_op pm_M174 (pc' := 15) (st' := [.int 0]) rfl rfl rfl ?_
  refine pm_R_ret pm_M174 (r := some (.int 0)) rfl rfl ?_
  show pm_R _ 298 11 [.ref 41, .int x1] [.int 0] _ _
  refine pm_R_br pm_M298 (pc' := 23) (st' := []) rfl rfl ?_
  refine pm_R_op pm_M298 (pc' := 24) (st' := [.int 0]) rfl rfl rfl ?_
  refine pm_R_ret pm_M298 (r := some (.int 0)) rfl rfl ?_
  show pm_R _ 0 2116 [.ref 0, .ref 16, .ref 41, .int 0] [.int 0, .int 0] _ _
  refine pm_R_br pm_M0 (pc' := 2121) (st' := []) (pm_q0_27 (Nat.le_of_ble_eq_true rfl)) rfl ?_
  exact p1_tail (hh 0 (Nat.le_of_ble_eq_true rfl)) (Nat.le_of_ble_eq_true rfl) (Nat.le_of_ble_eq_true rfl) (Nat.le_of_ble_eq_true rfl)
set_option maxRecDepth 100000 in
set_option maxHeartbeats 40000000 in
theorem p1_c42_eq0 (xs : Nat → Int32) (f : Nat → pm_E) (hh : ∀ i, i < 72 → f i = pm_fF 7 xs i) (x0 x1 x2 x3 x4 x5 x6 : Int32) (hx0 : xs 0 = x0) (hx1 : xs 1 = x1) (hx2 : xs 2 = x2) (hx3 : xs 3 = x3) (hx4 : xs 4 = x4) (hx5 : xs 5 = x5) (hx6 : xs 6 = x6) (hv : x1 = 0) : pm_R 100 0 2098 [.ref 0, .ref 16, .ref 41, .int 0] [] (72, 52657, f) p1_Q := by
  subst hv
  refine pm_R_lo pm_M0 (pc' := 2099) (pm_q0_27 (Nat.le_of_ble_eq_true rfl)) rfl rfl ?_
  refine pm_R_lo pm_M0 (pc' := 2100) (pm_q0_27 (Nat.le_of_ble_eq_true rfl)) rfl rfl ?_
  refine pm_R_lo pm_M0 (pc' := 2101) (pm_q0_27 (Nat.le_of_ble_eq_true rfl)) rfl rfl ?_
  refine pm_R_op pm_M0 (pc' := 2102) (st' := [.int 1, .int 0, .ref 0, .ref 16]) (pm_q0_27 (Nat.le_of_ble_eq_true rfl)) rfl rfl ?_
  refine pm_R_op pm_M0 (pc' := 2103) (st' := [.int 1, .ref 0, .ref 16]) (pm_q0_27 (Nat.le_of_ble_eq_true rfl)) rfl rfl ?_
  refine pm_R_iald pm_M0 (pc' := 2104) (v := 0) (pm_q0_27 (Nat.le_of_ble_eq_true rfl)) (hh 0 (Nat.le_of_ble_eq_true rfl)) (Nat.le_of_ble_eq_true rfl) rfl hx1 rfl ?_
  refine pm_R_cv pm_M0 (pc' := 2107) (a := 16) (ra := [.int 0]) (rest := []) (ls' := [.ref 16, .int 0]) (pm_q0_27 (Nat.le_of_ble_eq_true rfl)) rfl (Or.inl rfl) pm_M60 (hh 16 (Nat.le_of_ble_eq_true rfl)) rfl (Nat.le_of_ble_eq_true rfl) (Nat.le_of_ble_eq_true rfl) rfl rfl (Nat.le_of_ble_eq_true rfl) rfl rfl ?_
  refine pm_R_lo pm_M60 (pc' := 1) rfl rfl rfl ?_
  refine pm_R_br pm_M60 (pc' := 4) (st' := []) rfl rfl ?_
  refine pm_R_lo pm_M60 (pc' := 5) rfl rfl rfl ?_
  refine pm_R_op pm_M60 (pc' := 6) (st' := [.int 3, .int 0]) rfl rfl rfl ?_
  refine pm_R_br pm_M60 (pc' := 9) (st' := []) rfl rfl ?_
  refine pm_R_lo pm_M60 (pc' := 10) rfl rfl rfl ?_
  refine pm_R_get pm_M60 (pc' := 13) (v := .ref 24) rfl rfl (hh 16 (Nat.le_of_ble_eq_true rfl)) (Nat.le_of_ble_eq_true rfl) (Nat.le_of_ble_eq_true rfl) rfl rfl ?_
  refine pm_R_lo pm_M60 (pc' := 14) rfl rfl rfl ?_
  refine pm_R_aald pm_M60 (pc' := 15) (v := .null) rfl (hh 24 (Nat.le_of_ble_eq_true rfl)) (Nat.le_of_ble_eq_true rfl) (Nat.le_of_ble_eq_true rfl) (Nat.le_of_ble_eq_true rfl) (Nat.le_of_ble_eq_true rfl) rfl rfl rfl ?_
  refine pm_R_br pm_M60 (pc' := 18) rfl rfl ?_
  refine pm_R_op pm_M60 (pc' := 19) (st' := [.int 0]) rfl rfl rfl ?_
  refine pm_R_ret pm_M60 (r := some (.int 0)) rfl rfl ?_
  show pm_R _ 0 2107 [.ref 0, .ref 16, .ref 41, .int 0] [.int 0] _ _
  refine pm_R_lo pm_M0 (pc' := 2108) (pm_q0_27 (Nat.le_of_ble_eq_true rfl)) rfl rfl ?_
  refine pm_R_lo pm_M0 (pc' := 2109) (pm_q0_27 (Nat.le_of_ble_eq_true rfl)) rfl rfl ?_
  refine pm_R_lo pm_M0 (pc' := 2110) (pm_q0_27 (Nat.le_of_ble_eq_true rfl)) rfl rfl ?_
  refine pm_R_op pm_M0 (pc' := 2111) (st' := [.int 1, .int 0, .ref 0, .ref 41, .int 0]) (pm_q0_27 (Nat.le_of_ble_eq_true rfl)) rfl rfl ?_
  refine pm_R_op pm_M0 (pc' := 2112) (st' := [.int 1, .ref 0, .ref 41, .int 0]) (pm_q0_27 (Nat.le_of_ble_eq_true rfl)) rfl rfl ?_
  refine pm_R_iald pm_M0 (pc' := 2113) (v := 0) (pm_q0_27 (Nat.le_of_ble_eq_true rfl)) (hh 0 (Nat.le_of_ble_eq_true rfl)) (Nat.le_of_ble_eq_true rfl) rfl hx1 rfl ?_
  refine pm_R_cv pm_M0 (pc' := 2116) (a := 41) (ra := [.int 0]) (rest := [.int 0]) (ls' := [.ref 41, .int 0]) (pm_q0_27 (Nat.le_of_ble_eq_true rfl)) rfl (Or.inl rfl) pm_M298 (hh 41 (Nat.le_of_ble_eq_true rfl)) rfl (Nat.le_of_ble_eq_true rfl) (Nat.le_of_ble_eq_true rfl) rfl rfl (Nat.le_of_ble_eq_true rfl) rfl rfl ?_
  refine pm_R_lo pm_M298 (pc' := 1) rfl rfl rfl ?_
  refine pm_R_op pm_M298 (pc' := 2) (st' := [.int 0, .ref 41]) rfl rfl rfl ?_
  refine pm_R_put pm_M298 (pc' := 5) (fs' := [.int 0, .ref 42, .ref 43, .ref 44, .ref 45, .ref 46, .ref 47, .ref 48, .ref 49, .ref 50, .int 0, .int 0, .int 0, .int 0, .int 0, .long 0, .int 0, .int 0, .int 0, .ref 51, .ref 52, .int 0, .int 0, .int 0, .int 0, .ref 53, .int 0, .int 0, .ref 54, .ref 55, .ref 56, .int 0, .ref 57, .ref 58, .ref 59, .ref 60, .ref 61, .ref 62, .ref 63, .ref 64, .ref 65, .ref 66, .int 0, .int 0, .int 0, .ref 67, .ref 68, .int 0, .ref 69, .int 0, .int 0, .ref 70, .ref 71]) rfl rfl rfl (hh 41 (Nat.le_of_ble_eq_true rfl)) (Nat.le_of_ble_eq_true rfl) (Nat.le_of_ble_eq_true rfl) (Nat.le_of_ble_eq_true rfl) rfl (Or.inl rfl) rfl rfl ?_
  refine pm_R_lo pm_M298 (pc' := 6) rfl rfl rfl ?_
  refine pm_R_op pm_M298 (pc' := 7) (st' := [.int 0, .int 0]) rfl rfl rfl ?_
  refine pm_R_op pm_M298 (pc' := 8) (st' := [.int 2, .int 0, .int 0]) rfl rfl rfl ?_
  refine pm_R_cs pm_M298 (pc' := 11) (ra := [.int 2, .int 0, .int 0]) (rest := []) (ls' := [.int 0, .int 0, .int 2]) rfl rfl (Or.inl rfl) pm_M174 rfl rfl (Nat.le_of_ble_eq_true rfl) rfl rfl ?_
  refine pm_R_lo pm_M174 (pc' := 1) rfl rfl rfl ?_
  refine pm_R_lo pm_M174 (pc' := 2) rfl rfl rfl ?_
  refine pm_R_br pm_M174 (pc' := 5) (st' := []) rfl rfl ?_
  refine pm_R_lo pm_M174 (pc' := 6) rfl rfl rfl ?_
  refine pm_R_lo pm_M174 (pc' := 7) rfl rfl rfl ?_
  refine pm_R_br pm_M174 (pc' := 10) (st' := []) rfl rfl ?_
  refine pm_R_op pm_M174 (pc' := 11) (st' := [.int 1]) rfl rfl rfl ?_
  refine pm_R_br pm_M174 (pc' := 15) rfl rfl ?_
  refine pm_R_ret pm_M174 (r := some (.int 1)) rfl rfl ?_
  show pm_R _ 298 11 [.ref 41, .int 0] [.int 1] _ _
  refine pm_R_br pm_M298 (pc' := 14) (st' := []) rfl rfl ?_
  refine pm_R_lo pm_M298 (pc' := 15) rfl rfl rfl ?_
  refine pm_R_get pm_M298 (pc' := 18) (v := .ref 71) rfl rfl rfl (Nat.le_of_ble_eq_true rfl) (Nat.le_of_ble_eq_true rfl) rfl rfl ?_
  refine pm_R_lo pm_M298 (pc' := 19) rfl rfl rfl ?_
  refine pm_R_bald pm_M298 (pc' := 20) (v := 0) rfl (hh 71 (Nat.le_of_ble_eq_true rfl)) (Or.inr rfl) (Nat.le_of_ble_eq_true rfl) (Nat.le_of_ble_eq_true rfl) rfl rfl rfl ?_
  refine pm_R_br pm_M298 (pc' := 23) (st' := []) rfl rfl ?_
  refine pm_R_op pm_M298 (pc' := 24) (st' := [.int 0]) rfl rfl rfl ?_
  refine pm_R_ret pm_M298 (r := some (.int 0)) rfl rfl ?_
  show pm_R _ 0 2116 [.ref 0, .ref 16, .ref 41, .int 0] [.int 0, .int 0] _ _
  refine pm_R_br pm_M0 (pc' := 2121) (st' := []) (pm_q0_27 (Nat.le_of_ble_eq_true rfl)) rfl ?_
  exact p1_tail (hh 0 (Nat.le_of_ble_eq_true rfl)) (Nat.le_of_ble_eq_true rfl) (Nat.le_of_ble_eq_true rfl) (Nat.le_of_ble_eq_true rfl)
set_option maxRecDepth 100000 in
set_option maxHeartbeats 40000000 in
theorem p1_c42_eq1 (xs : Nat → Int32) (f : Nat → pm_E) (hh : ∀ i, i < 72 → f i = pm_fF 7 xs i) (x0 x1 x2 x3 x4 x5 x6 : Int32) (hx0 : xs 0 = x0) (hx1 : xs 1 = x1) (hx2 : xs 2 = x2) (hx3 : xs 3 = x3) (hx4 : xs 4 = x4) (hx5 : xs 5 = x5) (hx6 : xs 6 = x6) (hv : x1 = 1) : pm_R 100 0 2098 [.ref 0, .ref 16, .ref 41, .int 0] [] (72, 52657, f) p1_Q := by
  subst hv
  refine pm_R_lo pm_M0 (pc' := 2099) (pm_q0_27 (Nat.le_of_ble_eq_true rfl)) rfl rfl ?_
  refine pm_R_lo pm_M0 (pc' := 2100) (pm_q0_27 (Nat.le_of_ble_eq_true rfl)) rfl rfl ?_
  refine pm_R_lo pm_M0 (pc' := 2101) (pm_q0_27 (Nat.le_of_ble_eq_true rfl)) rfl rfl ?_
  refine pm_R_op pm_M0 (pc' := 2102) (st' := [.int 1, .int 0, .ref 0, .ref 16]) (pm_q0_27 (Nat.le_of_ble_eq_true rfl)) rfl rfl ?_
  refine pm_R_op pm_M0 (pc' := 2103) (st' := [.int 1, .ref 0, .ref 16]) (pm_q0_27 (Nat.le_of_ble_eq_true rfl)) rfl rfl ?_
  refine pm_R_iald pm_M0 (pc' := 2104) (v := 1) (pm_q0_27 (Nat.le_of_ble_eq_true rfl)) (hh 0 (Nat.le_of_ble_eq_true rfl)) (Nat.le_of_ble_eq_true rfl) rfl hx1 rfl ?_
  refine pm_R_cv pm_M0 (pc' := 2107) (a := 16) (ra := [.int 1]) (rest := []) (ls' := [.ref 16, .int 1]) (pm_q0_27 (Nat.le_of_ble_eq_true rfl)) rfl (Or.inl rfl) pm_M60 (hh 16 (Nat.le_of_ble_eq_true rfl)) rfl (Nat.le_of_ble_eq_true rfl) (Nat.le_of_ble_eq_true rfl) rfl rfl (Nat.le_of_ble_eq_true rfl) rfl rfl ?_
  refine pm_R_lo pm_M60 (pc' := 1) rfl rfl rfl ?_
  refine pm_R_br pm_M60 (pc' := 4) (st' := []) rfl rfl ?_
  refine pm_R_lo pm_M60 (pc' := 5) rfl rfl rfl ?_
  refine pm_R_op pm_M60 (pc' := 6) (st' := [.int 3, .int 1]) rfl rfl rfl ?_
  refine pm_R_br pm_M60 (pc' := 9) (st' := []) rfl rfl ?_
  refine pm_R_lo pm_M60 (pc' := 10) rfl rfl rfl ?_
  refine pm_R_get pm_M60 (pc' := 13) (v := .ref 24) rfl rfl (hh 16 (Nat.le_of_ble_eq_true rfl)) (Nat.le_of_ble_eq_true rfl) (Nat.le_of_ble_eq_true rfl) rfl rfl ?_
  refine pm_R_lo pm_M60 (pc' := 14) rfl rfl rfl ?_
  refine pm_R_aald pm_M60 (pc' := 15) (v := .null) rfl (hh 24 (Nat.le_of_ble_eq_true rfl)) (Nat.le_of_ble_eq_true rfl) (Nat.le_of_ble_eq_true rfl) (Nat.le_of_ble_eq_true rfl) (Nat.le_of_ble_eq_true rfl) rfl rfl rfl ?_
  refine pm_R_br pm_M60 (pc' := 18) rfl rfl ?_
  refine pm_R_op pm_M60 (pc' := 19) (st' := [.int 0]) rfl rfl rfl ?_
  refine pm_R_ret pm_M60 (r := some (.int 0)) rfl rfl ?_
  show pm_R _ 0 2107 [.ref 0, .ref 16, .ref 41, .int 0] [.int 0] _ _
  refine pm_R_lo pm_M0 (pc' := 2108) (pm_q0_27 (Nat.le_of_ble_eq_true rfl)) rfl rfl ?_
  refine pm_R_lo pm_M0 (pc' := 2109) (pm_q0_27 (Nat.le_of_ble_eq_true rfl)) rfl rfl ?_
  refine pm_R_lo pm_M0 (pc' := 2110) (pm_q0_27 (Nat.le_of_ble_eq_true rfl)) rfl rfl ?_
  refine pm_R_op pm_M0 (pc' := 2111) (st' := [.int 1, .int 0, .ref 0, .ref 41, .int 0]) (pm_q0_27 (Nat.le_of_ble_eq_true rfl)) rfl rfl ?_
  refine pm_R_op pm_M0 (pc' := 2112) (st' := [.int 1, .ref 0, .ref 41, .int 0]) (pm_q0_27 (Nat.le_of_ble_eq_true rfl)) rfl rfl ?_
  refine pm_R_iald pm_M0 (pc' := 2113) (v := 1) (pm_q0_27 (Nat.le_of_ble_eq_true rfl)) (hh 0 (Nat.le_of_ble_eq_true rfl)) (Nat.le_of_ble_eq_true rfl) rfl hx1 rfl ?_
  refine pm_R_cv pm_M0 (pc' := 2116) (a := 41) (ra := [.int 1]) (rest := [.int 0]) (ls' := [.ref 41, .int 1]) (pm_q0_27 (Nat.le_of_ble_eq_true rfl)) rfl (Or.inl rfl) pm_M298 (hh 41 (Nat.le_of_ble_eq_true rfl)) rfl (Nat.le_of_ble_eq_true rfl) (Nat.le_of_ble_eq_true rfl) rfl rfl (Nat.le_of_ble_eq_true rfl) rfl rfl ?_
  refine pm_R_lo pm_M298 (pc' := 1) rfl rfl rfl ?_
  refine pm_R_op pm_M298 (pc' := 2) (st' := [.int 0, .ref 41]) rfl rfl rfl ?_
  refine pm_R_put pm_M298 (pc' := 5) (fs' := [.int 0, .ref 42, .ref 43, .ref 44, .ref 45, .ref 46, .ref 47, .ref 48, .ref 49, .ref 50, .int 0, .int 0, .int 0, .int 0, .int 0, .long 0, .int 0, .int 0, .int 0, .ref 51, .ref 52, .int 0, .int 0, .int 0, .int 0, .ref 53, .int 0, .int 0, .ref 54, .ref 55, .ref 56, .int 0, .ref 57, .ref 58, .ref 59, .ref 60, .ref 61, .ref 62, .ref 63, .ref 64, .ref 65, .ref 66, .int 0, .int 0, .int 0, .ref 67, .ref 68, .int 0, .ref 69, .int 0, .int 0, .ref 70, .ref 71]) rfl rfl rfl (hh 41 (Nat.le_of_ble_eq_true rfl)) (Nat.le_of_ble_eq_true rfl) (Nat.le_of_ble_eq_true rfl) (Nat.le_of_ble_eq_true rfl) rfl (Or.inl rfl) rfl rfl ?_
  refine pm_R_lo pm_M298 (pc' := 6) rfl rfl rfl ?_
  refine pm_R_op pm_M298 (pc' := 7) (st' := [.int 0, .int 1]) rfl rfl rfl ?_
  refine pm_R_op pm_M298 (pc' := 8) (st' := [.int 2, .int 0, .int 1]) rfl rfl rfl ?_
  refine pm_R_cs pm_M298 (pc' := 11) (ra := [.int 2, .int 0, .int 1]) (rest := []) (ls' := [.int 1, .int 0, .int 2]) rfl rfl (Or.inl rfl) pm_M174 rfl rfl (Nat.le_of_ble_eq_true rfl) rfl rfl ?_
  refine pm_R_lo pm_M174 (pc' := 1) rfl rfl rfl ?_
  refine pm_R_lo pm_M174 (pc' := 2) rfl rfl rfl ?_
  refine pm_R_br pm_M174 (pc' := 5) (st' := []) rfl rfl ?_
  refine pm_R_lo pm_M174 (pc' := 6) rfl rfl rfl ?_
  refine pm_R_lo pm_M174 (pc' := 7) rfl rfl rfl ?_
  refine pm_R_br pm_M174 (pc' := 10) (st' := []) rfl rfl ?_
  refine pm_R_op pm_M174 (pc' := 11) (st' := [.int 1]) rfl rfl rfl ?_
  refine pm_R_br pm_M174 (pc' := 15) rfl rfl ?_
  refine pm_R_ret pm_M174 (r := some (.int 1)) rfl rfl ?_
  show pm_R _ 298 11 [.ref 41, .int 1] [.int 1] _ _
  refine pm_R_br pm_M298 (pc' := 14) (st' := []) rfl rfl ?_
  refine pm_R_lo pm_M298 (pc' := 15) rfl rfl rfl ?_
  refine pm_R_get pm_M298 (pc' := 18) (v := .ref 71) rfl rfl rfl (Nat.le_of_ble_eq_true rfl) (Nat.le_of_ble_eq_true rfl) rfl rfl ?_
  refine pm_R_lo pm_M298 (pc' := 19) rfl rfl rfl ?_
  refine pm_R_bald pm_M298 (pc' := 20) (v := 0) rfl (hh 71 (Nat.le_of_ble_eq_true rfl)) (Or.inr rfl) (Nat.le_of_ble_eq_true rfl) (Nat.le_of_ble_eq_true rfl) rfl rfl rfl ?_
  refine pm_R_br pm_M298 (pc' := 23) (st' := []) rfl rfl ?_
  refine pm_R_op pm_M298 (pc' := 24) (st' := [.int 0]) rfl rfl rfl ?_
  refine pm_R_ret pm_M298 (r := some (.int 0)) rfl rfl ?_
  show pm_R _ 0 2116 [.ref 0, .ref 16, .ref 41, .int 0] [.int 0, .int 0] _ _
  refine pm_R_br pm_M0 (pc' := 2121) (st' := []) (pm_q0_27 (Nat.le_of_ble_eq_true rfl)) rfl ?_
  exact p1_tail (hh 0 (Nat.le_of_ble_eq_true rfl)) (Nat.le_of_ble_eq_true rfl) (Nat.le_of_ble_eq_true rfl) (Nat.le_of_ble_eq_true rfl)
set_option maxRecDepth 100000 in
set_option maxHeartbeats 40000000 in
theorem p1_c42_eq2 (xs : Nat → Int32) (f : Nat → pm_E) (hh : ∀ i, i < 72 → f i = pm_fF 7 xs i) (x0 x1 x2 x3 x4 x5 x6 : Int32) (hx0 : xs 0 = x0) (hx1 : xs 1 = x1) (hx2 : xs 2 = x2) (hx3 : xs 3 = x3) (hx4 : xs 4 = x4) (hx5 : xs 5 = x5) (hx6 : xs 6 = x6) (hv : x1 = 2) : pm_R 100 0 2098 [.ref 0, .ref 16, .ref 41, .int 0] [] (72, 52657, f) p1_Q := by
  subst hv
  refine pm_R_lo pm_M0 (pc' := 2099) (pm_q0_27 (Nat.le_of_ble_eq_true rfl)) rfl rfl ?_
  refine pm_R_lo pm_M0 (pc' := 2100) (pm_q0_27 (Nat.le_of_ble_eq_true rfl)) rfl rfl ?_
  refine pm_R_lo pm_M0 (pc' := 2101) (pm_q0_27 (Nat.le_of_ble_eq_true rfl)) rfl rfl ?_
  refine pm_R_op pm_M0 (pc' := 2102) (st' := [.int 1, .int 0, .ref 0, .ref 16]) (pm_q0_27 (Nat.le_of_ble_eq_true rfl)) rfl rfl ?_
  refine pm_R_op pm_M0 (pc' := 2103) (st' := [.int 1, .ref 0, .ref 16]) (pm_q0_27 (Nat.le_of_ble_eq_true rfl)) rfl rfl ?_
  refine pm_R_iald pm_M0 (pc' := 2104) (v := 2) (pm_q0_27 (Nat.le_of_ble_eq_true rfl)) (hh 0 (Nat.le_of_ble_eq_true rfl)) (Nat.le_of_ble_eq_true rfl) rfl hx1 rfl ?_
  refine pm_R_cv pm_M0 (pc' := 2107) (a := 16) (ra := [.int 2]) (rest := []) (ls' := [.ref 16, .int 2]) (pm_q0_27 (Nat.le_of_ble_eq_true rfl)) rfl (Or.inl rfl) pm_M60 (hh 16 (Nat.le_of_ble_eq_true rfl)) rfl (Nat.le_of_ble_eq_true rfl) (Nat.le_of_ble_eq_true rfl) rfl rfl (Nat.le_of_ble_eq_true rfl) rfl rfl ?_
  refine pm_R_lo pm_M60 (pc' := 1) rfl rfl rfl ?_
  refine pm_R_br pm_M60 (pc' := 4) (st' := []) rfl rfl ?_
  refine pm_R_lo pm_M60 (pc' := 5) rfl rfl rfl ?_
  refine pm_R_op pm_M60 (pc' := 6) (st' := [.int 3, .int 2]) rfl rfl rfl ?_
  refine pm_R_br pm_M60 (pc' := 9) (st' := []) rfl rfl ?_
  refine pm_R_lo pm_M60 (pc' := 10) rfl rfl rfl ?_
  refine pm_R_get pm_M60 (pc' := 13) (v := .ref 24) rfl rfl (hh 16 (Nat.le_of_ble_eq_true rfl)) (Nat.le_of_ble_eq_true rfl) (Nat.le_of_ble_eq_true rfl) rfl rfl ?_
  refine pm_R_lo pm_M60 (pc' := 14) rfl rfl rfl ?_
  refine pm_R_aald pm_M60 (pc' := 15) (v := .null) rfl (hh 24 (Nat.le_of_ble_eq_true rfl)) (Nat.le_of_ble_eq_true rfl) (Nat.le_of_ble_eq_true rfl) (Nat.le_of_ble_eq_true rfl) (Nat.le_of_ble_eq_true rfl) rfl rfl rfl ?_
  refine pm_R_br pm_M60 (pc' := 18) rfl rfl ?_
  refine pm_R_op pm_M60 (pc' := 19) (st' := [.int 0]) rfl rfl rfl ?_
  refine pm_R_ret pm_M60 (r := some (.int 0)) rfl rfl ?_
  show pm_R _ 0 2107 [.ref 0, .ref 16, .ref 41, .int 0] [.int 0] _ _
  refine pm_R_lo pm_M0 (pc' := 2108) (pm_q0_27 (Nat.le_of_ble_eq_true rfl)) rfl rfl ?_
  refine pm_R_lo pm_M0 (pc' := 2109) (pm_q0_27 (Nat.le_of_ble_eq_true rfl)) rfl rfl ?_
  refine pm_R_lo pm_M0 (pc' := 2110) (pm_q0_27 (Nat.le_of_ble_eq_true rfl)) rfl rfl ?_
  refine pm_R_op pm_M0 (pc' := 2111) (st' := [.int 1, .int 0, .ref 0, .ref 41, .int 0]) (pm_q0_27 (Nat.le_of_ble_eq_true rfl)) rfl rfl ?_
  refine pm_R_op pm_M0 (pc' := 2112) (st' := [.int 1, .ref 0, .ref 41, .int 0]) (pm_q0_27 (Nat.le_of_ble_eq_true rfl)) rfl rfl ?_
  refine pm_R_iald pm_M0 (pc' := 2113) (v := 2) (pm_q0_27 (Nat.le_of_ble_eq_true rfl)) (hh 0 (Nat.le_of_ble_eq_true rfl)) (Nat.le_of_ble_eq_true rfl) rfl hx1 rfl ?_
  refine pm_R_cv pm_M0 (pc' := 2116) (a := 41) (ra := [.int 2]) (rest := [.int 0]) (ls' := [.ref 41, .int 2]) (pm_q0_27 (Nat.le_of_ble_eq_true rfl)) rfl (Or.inl rfl) pm_M298 (hh 41 (Nat.le_of_ble_eq_true rfl)) rfl (Nat.le_of_ble_eq_true rfl) (Nat.le_of_ble_eq_true rfl) rfl rfl (Nat.le_of_ble_eq_true rfl) rfl rfl ?_
  refine pm_R_lo pm_M298 (pc' := 1) rfl rfl rfl ?_
  refine pm_R_op pm_M298 (pc' := 2) (st' := [.int 0, .ref 41]) rfl rfl rfl ?_
  refine pm_R_put pm_M298 (pc' := 5) (fs' := [.int 0, .ref 42, .ref 43, .ref 44, .ref 45, .ref 46, .ref 47, .ref 48, .ref 49, .ref 50, .int 0, .int 0, .int 0, .int 0, .int 0, .long 0, .int 0, .int 0, .int 0, .ref 51, .ref 52, .int 0, .int 0, .int 0, .int 0, .ref 53, .int 0, .int 0, .ref 54, .ref 55, .ref 56, .int 0, .ref 57, .ref 58, .ref 59, .ref 60, .ref 61, .ref 62, .ref 63, .ref 64, .ref 65, .ref 66, .int 0, .int 0, .int 0, .ref 67, .ref 68, .int 0, .ref 69, .int 0, .int 0, .ref 70, .ref 71]) rfl rfl rfl (hh 41 (Nat.le_of_ble_eq_true rfl)) (Nat.le_of_ble_eq_true rfl) (Nat.le_of_ble_eq_true rfl) (Nat.le_of_ble_eq_true rfl) rfl (Or.inl rfl) rfl rfl ?_
  refine pm_R_lo pm_M298 (pc' := 6) rfl rfl rfl ?_
  refine pm_R_op pm_M298 (pc' := 7) (st' := [.int 0, .int 2]) rfl rfl rfl ?_
  refine pm_R_op pm_M298 (pc' := 8) (st' := [.int 2, .int 0, .int 2]) rfl rfl rfl ?_
  refine pm_R_cs pm_M298 (pc' := 11) (ra := [.int 2, .int 0, .int 2]) (rest := []) (ls' := [.int 2, .int 0, .int 2]) rfl rfl (Or.inl rfl) pm_M174 rfl rfl (Nat.le_of_ble_eq_true rfl) rfl rfl ?_
  refine pm_R_lo pm_M174 (pc' := 1) rfl rfl rfl ?_
  refine pm_R_lo pm_M174 (pc' := 2) rfl rfl rfl ?_
  refine pm_R_br pm_M174 (pc' := 5) (st' := []) rfl rfl ?_
  refine pm_R_lo pm_M174 (pc' := 6) rfl rfl rfl ?_
  refine pm_R_lo pm_M174 (pc' := 7) rfl rfl rfl ?_
  refine pm_R_br pm_M174 (pc' := 10) (st' := []) rfl rfl ?_
  refine pm_R_op pm_M174 (pc' := 11) (st' := [.int 1]) rfl rfl rfl ?_
  refine pm_R_br pm_M174 (pc' := 15) rfl rfl ?_
  refine pm_R_ret pm_M174 (r := some (.int 1)) rfl rfl ?_
  show pm_R _ 298 11 [.ref 41, .int 2] [.int 1] _ _
  refine pm_R_br pm_M298 (pc' := 14) (st' := []) rfl rfl ?_
  refine pm_R_lo pm_M298 (pc' := 15) rfl rfl rfl ?_
  refine pm_R_get pm_M298 (pc' := 18) (v := .ref 71) rfl rfl rfl (Nat.le_of_ble_eq_true rfl) (Nat.le_of_ble_eq_true rfl) rfl rfl ?_
  refine pm_R_lo pm_M298 (pc' := 19) rfl rfl rfl ?_
  refine pm_R_bald pm_M298 (pc' := 20) (v := 0) rfl (hh 71 (Nat.le_of_ble_eq_true rfl)) (Or.inr rfl) (Nat.le_of_ble_eq_true rfl) (Nat.le_of_ble_eq_true rfl) rfl rfl rfl ?_
  refine pm_R_br pm_M298 (pc' := 23) (st' := []) rfl rfl ?_
  refine pm_R_op pm_M298 (pc' := 24) (st' := [.int 0]) rfl rfl rfl ?_
  refine pm_R_ret pm_M298 (r := some (.int 0)) rfl rfl ?_
  show pm_R _ 0 2116 [.ref 0, .ref 16, .ref 41, .int 0] [.int 0, .int 0] _ _
  refine pm_R_br pm_M0 (pc' := 2121) (st' := []) (pm_q0_27 (Nat.le_of_ble_eq_true rfl)) rfl ?_
  exact p1_tail (hh 0 (Nat.le_of_ble_eq_true rfl)) (Nat.le_of_ble_eq_true rfl) (Nat.le_of_ble_eq_true rfl) (Nat.le_of_ble_eq_true rfl)
