set_option maxRecDepth 100000 in
set_option maxHeartbeats 40000000 in
theorem p1_c40_lo (xs : Nat → Int32) (f : Nat → pm_E) (hh : ∀ i, i < 72 → f i = pm_fF 7 xs i) (x0 x1 x2 x3 x4 x5 x6 : Int32) (hx0 : xs 0 = x0) (hx1 : xs 1 = x1) (hx2 : xs 2 = x2) (hx3 : xs 3 = x3) (hx4 : xs 4 = x4) (hx5 : xs 5 = x5) (hx6 : xs 6 = x6) (hv : x1 < 0) : pm_R 100 0 2052 [.ref 0, .ref 16, .ref 41, .int 0] [] (72, 52657, f) p1_Q := by
  refine pm_R_lo pm_M0 (pc' := 2053) (pm_q0_26 (Nat.le_of_ble_eq_true rfl)) rfl rfl ?_
  refine pm_R_lo pm_M0 (pc' := 2054) (pm_q0_26 (Nat.le_of_ble_eq_true rfl)) rfl rfl ?_
  refine pm_R_lo pm_M0 (pc' := 2055) (pm_q0_26 (Nat.le_of_ble_eq_true rfl)) rfl rfl ?_
  refine pm_R_op pm_M0 (pc' := 2056) (st' := [.int 1, .int 0, .ref 0, .ref 16]) (pm_q0_26 (Nat.le_of_ble_eq_true rfl)) rfl rfl ?_
  refine pm_R_op pm_M0 (pc' := 2057) (st' := [.int 1, .ref 0, .ref 16]) (pm_q0_26 (Nat.le_of_ble_eq_true rfl)) rfl rfl ?_
  refine pm_R_iald pm_M0 (pc' := 2058) (v := x1) (pm_q0_26 (Nat.le_of_ble_eq_true rfl)) (hh 0 (Nat.le_of_ble_eq_true rfl)) (Nat.le_of_ble_eq_true rfl) rfl hx1 rfl ?_
  refine pm_R_cv pm_M0 (pc' := 2061) (a := 16) (ra := [.int x1]) (rest := []) (ls' := [.ref 16, .int x1]) (pm_q0_26 (Nat.le_of_ble_eq_true rfl)) rfl (Or.inl rfl) pm_M56 (hh 16 (Nat.le_of_ble_eq_true rfl)) rfl (Nat.le_of_ble_eq_true rfl) (Nat.le_of_ble_eq_true rfl) rfl rfl (Nat.le_of_ble_eq_true rfl) rfl rfl ?_
  refine pm_R_lo pm_M56 (pc' := 1) rfl rfl rfl ?_
  refine pm_R_ifc pm_M56 (t := 9) (pc' := 4) rfl rfl rfl (fun c_1 => ?_) (fun c_1 => by exact absurd hv c_1)
  refine pm_R_op pm_M56 (pc' := 11) (st' := [.int (-2)]) rfl rfl rfl ?_
  refine pm_R_br pm_M56 (pc' := 23) rfl rfl ?_
  refine pm_R_ret pm_M56 (r := some (.int (-2))) rfl rfl ?_
  show pm_R _ 0 2061 [.ref 0, .ref 16, .ref 41, .int 0] [.int (-2)] _ _
  refine pm_R_lo pm_M0 (pc' := 2062) (pm_q0_26 (Nat.le_of_ble_eq_true rfl)) rfl rfl ?_
  refine pm_R_lo pm_M0 (pc' := 2063) (pm_q0_26 (Nat.le_of_ble_eq_true rfl)) rfl rfl ?_
  refine pm_R_lo pm_M0 (pc' := 2064) (pm_q0_26 (Nat.le_of_ble_eq_true rfl)) rfl rfl ?_
  refine pm_R_op pm_M0 (pc' := 2065) (st' := [.int 1, .int 0, .ref 0, .ref 41, .int (-2)]) (pm_q0_26 (Nat.le_of_ble_eq_true rfl)) rfl rfl ?_
  refine pm_R_op pm_M0 (pc' := 2066) (st' := [.int 1, .ref 0, .ref 41, .int (-2)]) (pm_q0_26 (Nat.le_of_ble_eq_true rfl)) rfl rfl ?_
  refine pm_R_iald pm_M0 (pc' := 2067) (v := x1) (pm_q0_26 (Nat.le_of_ble_eq_true rfl)) (hh 0 (Nat.le_of_ble_eq_true rfl)) (Nat.le_of_ble_eq_true rfl) rfl hx1 rfl ?_
  refine pm_R_cv pm_M0 (pc' := 2070) (a := 41) (ra := [.int x1]) (rest := [.int (-2)]) (ls' := [.ref 41, .int x1]) (pm_q0_26 (Nat.le_of_ble_eq_true rfl)) rfl (Or.inl rfl) pm_M294 (hh 41 (Nat.le_of_ble_eq_true rfl)) rfl (Nat.le_of_ble_eq_true rfl) (Nat.le_of_ble_eq_true rfl) rfl rfl (Nat.le_of_ble_eq_true rfl) rfl rfl ?_
  refine pm_R_lo pm_M294 (pc' := 1) rfl rfl rfl ?_
  refine pm_R_op pm_M294 (pc' := 2) (st' := [.int 0, .ref 41]) rfl rfl rfl ?_
  refine pm_R_put pm_M294 (pc' := 5) (fs' := [.int 0, .ref 42, .ref 43, .ref 44, .ref 45, .ref 46, .ref 47, .ref 48, .ref 49, .ref 50, .int 0, .int 0, .int 0, .int 0, .int 0, .long 0, .int 0, .int 0, .int 0, .ref 51, .ref 52, .int 0, .int 0, .int 0, .int 0, .ref 53, .int 0, .int 0, .ref 54, .ref 55, .ref 56, .int 0, .ref 57, .ref 58, .ref 59, .ref 60, .ref 61, .ref 62, .ref 63, .ref 64, .ref 65, .ref 66, .int 0, .int 0, .int 0, .ref 67, .ref 68, .int 0, .ref 69, .int 0, .int 0, .ref 70, .ref 71]) rfl rfl rfl (hh 41 (Nat.le_of_ble_eq_true rfl)) (Nat.le_of_ble_eq_true rfl) (Nat.le_of_ble_eq_true rfl) (Nat.le_of_ble_eq_true rfl) rfl (Or.inl rfl) rfl rfl ?_
  refine pm_R_lo pm_M294 (pc' := 6) rfl rfl rfl ?_
  refine pm_R_op pm_M294 (pc' := 7) (st' := [.int 0, .int x1]) rfl rfl rfl ?_
  refine pm_R_op pm_M294 (pc' := 8) (st' := [.int 3, .int 0, .int x1]) rfl rfl rfl ?_
  refine pm_R_cs pm_M294 (pc' := 11) (ra := [.int 3, .int 0, .int x1]) (rest := []) (ls' := [.int x1, .int 0, .int 3]) rfl rfl (Or.inl rfl) pm_M174 rfl rfl (Nat.le_of_ble_eq_true rfl) rfl rfl ?_
  refine pm_R_lo pm_M174 (pc' := 1) rfl rfl rfl ?_
  refine pm_R_lo pm_M174 (pc' := 2) rfl rfl rfl ?_
  refine pm_R_icmp pm_M174 (t := 14) (pc' := 5) rfl rfl rfl (fun c_2 => ?_) (fun c_2 => by exact absurd hv c_2)
  refine pm_R_op pm_M174 (pc' := 15) (st' := [.int 0]) rfl rfl rfl ?_
  refine pm_R_ret pm_M174 (r := some (.int 0)) rfl rfl ?_
  show pm_R _ 294 11 [.ref 41, .int x1] [.int 0] _ _
  refine pm_R_br pm_M294 (pc' := 23) (st' := []) rfl rfl ?_
  refine pm_R_op pm_M294 (pc' := 25) (st' := [.int (-2)]) rfl rfl rfl ?_
  refine pm_R_ret pm_M294 (r := some (.int (-2))) rfl rfl ?_
  show pm_R _ 0 2070 [.ref 0, .ref 16, .ref 41, .int 0] [.int (-2), .int (-2)] _ _
  refine pm_R_br pm_M0 (pc' := 2121) (st' := []) (pm_q0_26 (Nat.le_of_ble_eq_true rfl)) rfl ?_
  exact p1_tail (hh 0 (Nat.le_of_ble_eq_true rfl)) (Nat.le_of_ble_eq_true rfl) (Nat.le_of_ble_eq_true rfl) (Nat.le_of_ble_eq_true rfl)
set_option maxRecDepth 100000 in
set_option maxHeartbeats 40000000 in
theorem p1_c40_hi (xs : Nat → Int32) (f : Nat → pm_E) (hh : ∀ i, i < 72 → f i = pm_fF 7 xs i) (x0 x1 x2 x3 x4 x5 x6 : Int32) (hx0 : xs 0 = x0) (hx1 : xs 1 = x1) (hx2 : xs 2 = x2) (hx3 : xs 3 = x3) (hx4 : xs 4 = x4) (hx5 : xs 5 = x5) (hx6 : xs 6 = x6) (hv : (4 : Int32) ≤ x1) : pm_R 100 0 2052 [.ref 0, .ref 16, .ref 41, .int 0] [] (72, 52657, f) p1_Q := by
  have hv0 : ¬ x1 < 0 := fun q => absurd (Int32.lt_of_lt_of_le q (by decide : (0 : Int32) ≤ 4)) (fun q2 => absurd hv (Int32.not_le.mpr q2))
  have hv1 : (3 : Int32) < x1 := Int32.lt_of_lt_of_le (by decide) hv
  refine pm_R_lo pm_M0 (pc' := 2053) (pm_q0_26 (Nat.le_of_ble_eq_true rfl)) rfl rfl ?_
  refine pm_R_lo pm_M0 (pc' := 2054) (pm_q0_26 (Nat.le_of_ble_eq_true rfl)) rfl rfl ?_
  refine pm_R_lo pm_M0 (pc' := 2055) (pm_q0_26 (Nat.le_of_ble_eq_true rfl)) rfl rfl ?_
  refine pm_R_op pm_M0 (pc' := 2056) (st' := [.int 1, .int 0, .ref 0, .ref 16]) (pm_q0_26 (Nat.le_of_ble_eq_true rfl)) rfl rfl ?_
  refine pm_R_op pm_M0 (pc' := 2057) (st' := [.int 1, .ref 0, .ref 16]) (pm_q0_26 (Nat.le_of_ble_eq_true rfl)) rfl rfl ?_
  refine pm_R_iald pm_M0 (pc' := 2058) (v := x1) (pm_q0_26 (Nat.le_of_ble_eq_true rfl)) (hh 0 (Nat.le_of_ble_eq_true rfl)) (Nat.le_of_ble_eq_true rfl) rfl hx1 rfl ?_
  refine pm_R_cv pm_M0 (pc' := 2061) (a := 16) (ra := [.int x1]) (rest := []) (ls' := [.ref 16, .int x1]) (pm_q0_26 (Nat.le_of_ble_eq_true rfl)) rfl (Or.inl rfl) pm_M56 (hh 16 (Nat.le_of_ble_eq_true rfl)) rfl (Nat.le_of_ble_eq_true rfl) (Nat.le_of_ble_eq_true rfl) rfl rfl (Nat.le_of_ble_eq_true rfl) rfl rfl ?_
  refine pm_R_lo pm_M56 (pc' := 1) rfl rfl rfl ?_
  refine pm_R_ifc pm_M56 (t := 9) (pc' := 4) rfl rfl rfl (fun c_1 => by exact absurd c_1 hv0) (fun c_1 => ?_)
  refine pm_R_lo pm_M56 (pc' := 5) rfl rfl rfl ?_
  refine pm_R_op pm_M56 (pc' := 6) (st' := [.int 4, .int x1]) rfl rfl rfl ?_
  refine pm_R_icmp pm_M56 (t := 14) (pc' := 9) rfl rfl rfl (fun c_2 => by first | exact absurd c_2 hv | exact absurd hv c_2 | exact absurd (Int32.not_lt.mp c_2) hv | exact absurd (Int32.not_le.mp c_2) hv | exact absurd (Int32.not_lt.mpr c_2) hv | exact absurd (Int32.not_le.mpr c_2) hv | exact absurd hv (Int32.not_le.mpr c_2) | exact absurd hv (Int32.not_lt.mpr c_2)) (fun c_2 => ?_)
  refine pm_R_op pm_M56 (pc' := 11) (st' := [.int (-2)]) rfl rfl rfl ?_
  refine pm_R_br pm_M56 (pc' := 23) rfl rfl ?_
  refine pm_R_ret pm_M56 (r := some (.int (-2))) rfl rfl ?_
  show pm_R _ 0 2061 [.ref 0, .ref 16, .ref 41, .int 0] [.int (-2)] _ _
  refine pm_R_lo pm_M0 (pc' := 2062) (pm_q0_26 (Nat.le_of_ble_eq_true rfl)) rfl rfl ?_
  refine pm_R_lo pm_M0 (pc' := 2063) (pm_q0_26 (Nat.le_of_ble_eq_true rfl)) rfl rfl ?_
  refine pm_R_lo pm_M0 (pc' := 2064) (pm_q0_26 (Nat.le_of_ble_eq_true rfl)) rfl rfl ?_
  refine pm_R_op pm_M0 (pc' := 2065) (st' := [.int 1, .int 0, .ref 0, .ref 41, .int (-2)]) (pm_q0_26 (Nat.le_of_ble_eq_true rfl)) rfl rfl ?_
  refine pm_R_op pm_M0 (pc' := 2066) (st' := [.int 1, .ref 0, .ref 41, .int (-2)]) (pm_q0_26 (Nat.le_of_ble_eq_true rfl)) rfl rfl ?_
  refine pm_R_iald pm_M0 (pc' := 2067) (v := x1) (pm_q0_26 (Nat.le_of_ble_eq_true rfl)) (hh 0 (Nat.le_of_ble_eq_true rfl)) (Nat.le_of_ble_eq_true rfl) rfl hx1 rfl ?_
  refine pm_R_cv pm_M0 (pc' := 2070) (a := 41) (ra := [.int x1]) (rest := [.int (-2)]) (ls' := [.ref 41, .int x1]) (pm_q0_26 (Nat.le_of_ble_eq_true rfl)) rfl (Or.inl rfl) pm_M294 (hh 41 (Nat.le_of_ble_eq_true rfl)) rfl (Nat.le_of_ble_eq_true rfl) (Nat.le_of_ble_eq_true rfl) rfl rfl (Nat.le_of_ble_eq_true rfl) rfl rfl ?_
  refine pm_R_lo pm_M294 (pc' := 1) rfl rfl rfl ?_
  refine pm_R_op pm_M294 (pc' := 2) (st' := [.int 0, .ref 41]) rfl rfl rfl ?_
  refine pm_R_put pm_M294 (pc' := 5) (fs' := [.int 0, .ref 42, .ref 43, .ref 44, .ref 45, .ref 46, .ref 47, .ref 48, .ref 49, .ref 50, .int 0, .int 0, .int 0, .int 0, .int 0, .long 0, .int 0, .int 0, .int 0, .ref 51, .ref 52, .int 0, .int 0, .int 0, .int 0, .ref 53, .int 0, .int 0, .ref 54, .ref 55, .ref 56, .int 0, .ref 57, .ref 58, .ref 59, .ref 60, .ref 61, .ref 62, .ref 63, .ref 64, .ref 65, .ref 66, .int 0, .int 0, .int 0, .ref 67, .ref 68, .int 0, .ref 69, .int 0, .int 0, .ref 70, .ref 71]) rfl rfl rfl (hh 41 (Nat.le_of_ble_eq_true rfl)) (Nat.le_of_ble_eq_true rfl) (Nat.le_of_ble_eq_true rfl) (Nat.le_of_ble_eq_true rfl) rfl (Or.inl rfl) rfl rfl ?_
  refine pm_R_lo pm_M294 (pc' := 6) rfl rfl rfl ?_
  refine pm_R_op pm_M294 (pc' := 7) (st' := [.int 0, .int x1]) rfl rfl rfl ?_
  refine pm_R_op pm_M294 (pc' := 8) (st' := [.int 3, .int 0, .int x1]) rfl rfl rfl ?_
  refine pm_R_cs pm_M294 (pc' := 11) (ra := [.int 3, .int 0, .int x1]) (rest := []) (ls' := [.int x1, .int 0, .int 3]) rfl rfl (Or.inl rfl) pm_M174 rfl rfl (Nat.le_of_ble_eq_true rfl) rfl rfl ?_
  refine pm_R_lo pm_M174 (pc' := 1) rfl rfl rfl ?_
  refine pm_R_lo pm_M174 (pc' := 2) rfl rfl rfl ?_
  refine pm_R_icmp pm_M174 (t := 14) (pc' := 5) rfl rfl rfl (fun c_3 => by exact absurd c_3 hv0) (fun c_3 => ?_)
  refine pm_R_lo pm_M174 (pc' := 6) rfl rfl rfl ?_
  refine pm_R_lo pm_M174 (pc' := 7) rfl rfl rfl ?_
  refine pm_R_icmp pm_M174 (t := 14) (pc' := 10) rfl rfl rfl (fun c_4 => ?_) (fun c_4 => by exact absurd hv1 c_4)
  refine pm_R_op pm_M174 (pc' := 15) (st' := [.int 0]) rfl rfl rfl ?_
  refine pm_R_ret pm_M174 (r := some (.int 0)) rfl rfl ?_
  show pm_R _ 294 11 [.ref 41, .int x1] [.int 0] _ _
  refine pm_R_br pm_M294 (pc' := 23) (st' := []) rfl rfl ?_
  refine pm_R_op pm_M294 (pc' := 25) (st' := [.int (-2)]) rfl rfl rfl ?_
  refine pm_R_ret pm_M294 (r := some (.int (-2))) rfl rfl ?_
  show pm_R _ 0 2070 [.ref 0, .ref 16, .ref 41, .int 0] [.int (-2), .int (-2)] _ _
  refine pm_R_br pm_M0 (pc' := 2121) (st' := []) (pm_q0_26 (Nat.le_of_ble_eq_true rfl)) rfl ?_
  exact p1_tail (hh 0 (Nat.le_of_ble_eq_true rfl)) (Nat.le_of_ble_eq_true rfl) (Nat.le_of_ble_eq_true rfl) (Nat.le_of_ble_eq_true rfl)
set_option maxRecDepth 100000 in
set_option maxHeartbeats 40000000 in
theorem p1_c40_eq0 (xs : Nat → Int32) (f : Nat → pm_E) (hh : ∀ i, i < 72 → f i = pm_fF 7 xs i) (x0 x1 x2 x3 x4 x5 x6 : Int32) (hx0 : xs 0 = x0) (hx1 : xs 1 = x1) (hx2 : xs 2 = x2) (hx3 : xs 3 = x3) (hx4 : xs 4 = x4) (hx5 : xs 5 = x5) (hx6 : xs 6 = x6) (hv : x1 = 0) : pm_R 100 0 2052 [.ref 0, .ref 16, .ref 41, .int 0] [] (72, 52657, f) p1_Q := by
  subst hv
  refine pm_R_lo pm_M0 (pc' := 2053) (pm_q0_26 (Nat.le_of_ble_eq_true rfl)) rfl rfl ?_
  refine pm_R_lo pm_M0 (pc' := 2054) (pm_q0_26 (Nat.le_of_ble_eq_true rfl)) rfl rfl ?_
  refine pm_R_lo pm_M0 (pc' := 2055) (pm_q0_26 (Nat.le_of_ble_eq_true rfl)) rfl rfl ?_
  refine pm_R_op pm_M0 (pc' := 2056) (st' := [.int 1, .int 0, .ref 0, .ref 16]) (pm_q0_26 (Nat.le_of_ble_eq_true rfl)) rfl rfl ?_
  refine pm_R_op pm_M0 (pc' := 2057) (st' := [.int 1, .ref 0, .ref 16]) (pm_q0_26 (Nat.le_of_ble_eq_true rfl)) rfl rfl ?_
  refine pm_R_iald pm_M0 (pc' := 2058) (v := 0) (pm_q0_26 (Nat.le_of_ble_eq_true rfl)) (hh 0 (Nat.le_of_ble_eq_true rfl)) (Nat.le_of_ble_eq_true rfl) rfl hx1 rfl ?_
  refine pm_R_cv pm_M0 (pc' := 2061) (a := 16) (ra := [.int 0]) (rest := []) (ls' := [.ref 16, .int 0]) (pm_q0_26 (Nat.le_of_ble_eq_true rfl)) rfl (Or.inl rfl) pm_M56 (hh 16 (Nat.le_of_ble_eq_true rfl)) rfl (Nat.le_of_ble_eq_true rfl) (Nat.le_of_ble_eq_true rfl) rfl rfl (Nat.le_of_ble_eq_true rfl) rfl rfl ?_
  refine pm_R_lo pm_M56 (pc' := 1) rfl rfl rfl ?_
  refine pm_R_br pm_M56 (pc' := 4) (st' := []) rfl rfl ?_
  refine pm_R_lo pm_M56 (pc' := 5) rfl rfl rfl ?_
  refine pm_R_op pm_M56 (pc' := 6) (st' := [.int 4, .int 0]) rfl rfl rfl ?_
  refine pm_R_br pm_M56 (pc' := 14) (st' := []) rfl rfl ?_
  refine pm_R_lo pm_M56 (pc' := 15) rfl rfl rfl ?_
  refine pm_R_get pm_M56 (pc' := 18) (v := .ref 17) rfl rfl (hh 16 (Nat.le_of_ble_eq_true rfl)) (Nat.le_of_ble_eq_true rfl) (Nat.le_of_ble_eq_true rfl) rfl rfl ?_
  refine pm_R_get pm_M56 (pc' := 21) (v := .ref 23) rfl rfl (hh 17 (Nat.le_of_ble_eq_true rfl)) (Nat.le_of_ble_eq_true rfl) (Nat.le_of_ble_eq_true rfl) rfl rfl ?_
  refine pm_R_lo pm_M56 (pc' := 22) rfl rfl rfl ?_
  refine pm_R_iald pm_M56 (pc' := 23) (v := 0) rfl (hh 23 (Nat.le_of_ble_eq_true rfl)) (Nat.le_of_ble_eq_true rfl) rfl rfl rfl ?_
  refine pm_R_ret pm_M56 (r := some (.int 0)) rfl rfl ?_
  show pm_R _ 0 2061 [.ref 0, .ref 16, .ref 41, .int 0] [.int 0] _ _
  refine pm_R_lo pm_M0 (pc' := 2062) (pm_q0_26 (Nat.le_of_ble_eq_true rfl)) rfl rfl ?_
  refine pm_R_lo pm_M0 (pc' := 2063) (pm_q0_26 (Nat.le_of_ble_eq_true rfl)) rfl rfl ?_
  refine pm_R_lo pm_M0 (pc' := 2064) (pm_q0_26 (Nat.le_of_ble_eq_true rfl)) rfl rfl ?_
  refine pm_R_op pm_M0 (pc' := 2065) (st' := [.int 1, .int 0, .ref 0, .ref 41, .int 0]) (pm_q0_26 (Nat.le_of_ble_eq_true rfl)) rfl rfl ?_
  refine pm_R_op pm_M0 (pc' := 2066) (st' := [.int 1, .ref 0, .ref 41, .int 0]) (pm_q0_26 (Nat.le_of_ble_eq_true rfl)) rfl rfl ?_
  refine pm_R_iald pm_M0 (pc' := 2067) (v := 0) (pm_q0_26 (Nat.le_of_ble_eq_true rfl)) (hh 0 (Nat.le_of_ble_eq_true rfl)) (Nat.le_of_ble_eq_true rfl) rfl hx1 rfl ?_
  refine pm_R_cv pm_M0 (pc' := 2070) (a := 41) (ra := [.int 0]) (rest := [.int 0]) (ls' := [.ref 41, .int 0]) (pm_q0_26 (Nat.le_of_ble_eq_true rfl)) rfl (Or.inl rfl) pm_M294 (hh 41 (Nat.le_of_ble_eq_true rfl)) rfl (Nat.le_of_ble_eq_true rfl) (Nat.le_of_ble_eq_true rfl) rfl rfl (Nat.le_of_ble_eq_true rfl) rfl rfl ?_
  refine pm_R_lo pm_M294 (pc' := 1) rfl rfl rfl ?_
  refine pm_R_op pm_M294 (pc' := 2) (st' := [.int 0, .ref 41]) rfl rfl rfl ?_
  refine pm_R_put pm_M294 (pc' := 5) (fs' := [.int 0, .ref 42, .ref 43, .ref 44, .ref 45, .ref 46, .ref 47, .ref 48, .ref 49, .ref 50, .int 0, .int 0, .int 0, .int 0, .int 0, .long 0, .int 0, .int 0, .int 0, .ref 51, .ref 52, .int 0, .int 0, .int 0, .int 0, .ref 53, .int 0, .int 0, .ref 54, .ref 55, .ref 56, .int 0, .ref 57, .ref 58, .ref 59, .ref 60, .ref 61, .ref 62, .ref 63, .ref 64, .ref 65, .ref 66, .int 0, .int 0, .int 0, .ref 67, .ref 68, .int 0, .ref 69, .int 0, .int 0, .ref 70, .ref 71]) rfl rfl rfl (hh 41 (Nat.le_of_ble_eq_true rfl)) (Nat.le_of_ble_eq_true rfl) (Nat.le_of_ble_eq_true rfl) (Nat.le_of_ble_eq_true rfl) rfl (Or.inl rfl) rfl rfl ?_
  refine pm_R_lo pm_M294 (pc' := 6) rfl rfl rfl ?_
  refine pm_R_op pm_M294 (pc' := 7) (st' := [.int 0, .int 0]) rfl rfl rfl ?_
  refine pm_R_op pm_M294 (pc' := 8) (st' := [.int 3, .int 0, .int 0]) rfl rfl rfl ?_
  refine pm_R_cs pm_M294 (pc' := 11) (ra := [.int 3, .int 0, .int 0]) (rest := []) (ls' := [.int 0, .int 0, .int 3]) rfl rfl (Or.inl rfl) pm_M174 rfl rfl (Nat.le_of_ble_eq_true rfl) rfl rfl ?_
  refine pm_R_lo pm_M174 (pc' := 1) rfl rfl rfl ?_
  refine pm_R_lo pm_M174 (pc' := 2) rfl rfl rfl ?_
  refine pm_R_br pm_M174 (pc' := 5) (st' := []) rfl rfl ?_
  refine pm_R_lo pm_M174 (pc' := 6) rfl rfl rfl ?_
  refine pm_R_lo pm_M174 (pc' := 7) rfl rfl rfl ?_
  refine pm_R_br pm_M174 (pc' := 10) (st' := []) rfl rfl ?_
  refine pm_R_op pm_M174 (pc' := 11) (st' := [.int 1]) rfl rfl rfl ?_
  refine pm_R_br pm_M174 (pc' := 15) rfl rfl ?_
  refine pm_R_ret pm_M174 (r := some (.int 1)) rfl rfl ?_
  show pm_R _ 294 11 [.ref 41, .int 0] [.int 1] _ _
  refine pm_R_br pm_M294 (pc' := 14) (st' := []) rfl rfl ?_
  refine pm_R_lo pm_M294 (pc' := 15) rfl rfl rfl ?_
  refine pm_R_get pm_M294 (pc' := 18) (v := .ref 46) rfl rfl rfl (Nat.le_of_ble_eq_true rfl) (Nat.le_of_ble_eq_true rfl) rfl rfl ?_
  refine pm_R_lo pm_M294 (pc' := 19) rfl rfl rfl ?_
  refine pm_R_iald pm_M294 (pc' := 20) (v := 0) rfl (hh 46 (Nat.le_of_ble_eq_true rfl)) (Nat.le_of_ble_eq_true rfl) rfl rfl rfl ?_
  refine pm_R_br pm_M294 (pc' := 25) rfl rfl ?_
  refine pm_R_ret pm_M294 (r := some (.int 0)) rfl rfl ?_
  show pm_R _ 0 2070 [.ref 0, .ref 16, .ref 41, .int 0] [.int 0, .int 0] _ _
  refine pm_R_br pm_M0 (pc' := 2121) (st' := []) (pm_q0_26 (Nat.le_of_ble_eq_true rfl)) rfl ?_
  exact p1_tail (hh 0 (Nat.le_of_ble_eq_true rfl)) (Nat.le_of_ble_eq_true rfl) (Nat.le_of_ble_eq_true rfl) (Nat.le_of_ble_eq_true rfl)
set_option maxRecDepth 100000 in
set_option maxHeartbeats 40000000 in
theorem p1_c40_eq1 (xs : Nat → Int32) (f : Nat → pm_E) (hh : ∀ i, i < 72 → f i = pm_fF 7 xs i) (x0 x1 x2 x3 x4 x5 x6 : Int32) (hx0 : xs 0 = x0) (hx1 : xs 1 = x1) (hx2 : xs 2 = x2) (hx3 : xs 3 = x3) (hx4 : xs 4 = x4) (hx5 : xs 5 = x5) (hx6 : xs 6 = x6) (hv : x1 = 1) : pm_R 100 0 2052 [.ref 0, .ref 16, .ref 41, .int 0] [] (72, 52657, f) p1_Q := by
  subst hv
  refine pm_R_lo pm_M0 (pc' := 2053) (pm_q0_26 (Nat.le_of_ble_eq_true rfl)) rfl rfl ?_
  refine pm_R_lo pm_M0 (pc' := 2054) (pm_q0_26 (Nat.le_of_ble_eq_true rfl)) rfl rfl ?_
  refine pm_R_lo pm_M0 (pc' := 2055) (pm_q0_26 (Nat.le_of_ble_eq_true rfl)) rfl rfl ?_
  refine pm_R_op pm_M0 (pc' := 2056) (st' := [.int 1, .int 0, .ref 0, .ref 16]) (pm_q0_26 (Nat.le_of_ble_eq_true rfl)) rfl rfl ?_
  refine pm_R_op pm_M0 (pc' := 2057) (st' := [.int 1, .ref 0, .ref 16]) (pm_q0_26 (Nat.le_of_ble_eq_true rfl)) rfl rfl ?_
  refine pm_R_iald pm_M0 (pc' := 2058) (v := 1) (pm_q0_26 (Nat.le_of_ble_eq_true rfl)) (hh 0 (Nat.le_of_ble_eq_true rfl)) (Nat.le_of_ble_eq_true rfl) rfl hx1 rfl ?_
  refine pm_R_cv pm_M0 (pc' := 2061) (a := 16) (ra := [.int 1]) (rest := []) (ls' := [.ref 16, .int 1]) (pm_q0_26 (Nat.le_of_ble_eq_true rfl)) rfl (Or.inl rfl) pm_M56 (hh 16 (Nat.le_of_ble_eq_true rfl)) rfl (Nat.le_of_ble_eq_true rfl) (Nat.le_of_ble_eq_true rfl) rfl rfl (Nat.le_of_ble_eq_true rfl) rfl rfl ?_
  refine pm_R_lo pm_M56 (pc' := 1) rfl rfl rfl ?_
  refine pm_R_br pm_M56 (pc' := 4) (st' := []) rfl rfl ?_
  refine pm_R_lo pm_M56 (pc' := 5) rfl rfl rfl ?_
  refine pm_R_op pm_M56 (pc' := 6) (st' := [.int 4, .int 1]) rfl rfl rfl ?_
  refine pm_R_br pm_M56 (pc' := 14) (st' := []) rfl rfl ?_
  refine pm_R_lo pm_M56 (pc' := 15) rfl rfl rfl ?_
  refine pm_R_get pm_M56 (pc' := 18) (v := .ref 17) rfl rfl (hh 16 (Nat.le_of_ble_eq_true rfl)) (Nat.le_of_ble_eq_true rfl) (Nat.le_of_ble_eq_true rfl) rfl rfl ?_
  refine pm_R_get pm_M56 (pc' := 21) (v := .ref 23) rfl rfl (hh 17 (Nat.le_of_ble_eq_true rfl)) (Nat.le_of_ble_eq_true rfl) (Nat.le_of_ble_eq_true rfl) rfl rfl ?_
  refine pm_R_lo pm_M56 (pc' := 22) rfl rfl rfl ?_
  refine pm_R_iald pm_M56 (pc' := 23) (v := 0) rfl (hh 23 (Nat.le_of_ble_eq_true rfl)) (Nat.le_of_ble_eq_true rfl) rfl rfl rfl ?_
  refine pm_R_ret pm_M56 (r := some (.int 0)) rfl rfl ?_
  show pm_R _ 0 2061 [.ref 0, .ref 16, .ref 41, .int 0] [.int 0] _ _
  refine pm_R_lo pm_M0 (pc' := 2062) (pm_q0_26 (Nat.le_of_ble_eq_true rfl)) rfl rfl ?_
  refine pm_R_lo pm_M0 (pc' := 2063) (pm_q0_26 (Nat.le_of_ble_eq_true rfl)) rfl rfl ?_
  refine pm_R_lo pm_M0 (pc' := 2064) (pm_q0_26 (Nat.le_of_ble_eq_true rfl)) rfl rfl ?_
  refine pm_R_op pm_M0 (pc' := 2065) (st' := [.int 1, .int 0, .ref 0, .ref 41, .int 0]) (pm_q0_26 (Nat.le_of_ble_eq_true rfl)) rfl rfl ?_
  refine pm_R_op pm_M0 (pc' := 2066) (st' := [.int 1, .ref 0, .ref 41, .int 0]) (pm_q0_26 (Nat.le_of_ble_eq_true rfl)) rfl rfl ?_
  refine pm_R_iald pm_M0 (pc' := 2067) (v := 1) (pm_q0_26 (Nat.le_of_ble_eq_true rfl)) (hh 0 (Nat.le_of_ble_eq_true rfl)) (Nat.le_of_ble_eq_true rfl) rfl hx1 rfl ?_
  refine pm_R_cv pm_M0 (pc' := 2070) (a := 41) (ra := [.int 1]) (rest := [.int 0]) (ls' := [.ref 41, .int 1]) (pm_q0_26 (Nat.le_of_ble_eq_true rfl)) rfl (Or.inl rfl) pm_M294 (hh 41 (Nat.le_of_ble_eq_true rfl)) rfl (Nat.le_of_ble_eq_true rfl) (Nat.le_of_ble_eq_true rfl) rfl rfl (Nat.le_of_ble_eq_true rfl) rfl rfl ?_
  refine pm_R_lo pm_M294 (pc' := 1) rfl rfl rfl ?_
  refine pm_R_op pm_M294 (pc' := 2) (st' := [.int 0, .ref 41]) rfl rfl rfl ?_
  refine pm_R_put pm_M294 (pc' := 5) (fs' := [.int 0, .ref 42, .ref 43, .ref 44, .ref 45, .ref 46, .ref 47, .ref 48, .ref 49, .ref 50, .int 0, .int 0, .int 0, .int 0, .int 0, .long 0, .int 0, .int 0, .int 0, .ref 51, .ref 52, .int 0, .int 0, .int 0, .int 0, .ref 53, .int 0, .int 0, .ref 54, .ref 55, .ref 56, .int 0, .ref 57, .ref 58, .ref 59, .ref 60, .ref 61, .ref 62, .ref 63, .ref 64, .ref 65, .ref 66, .int 0, .int 0, .int 0, .ref 67, .ref 68, .int 0, .ref 69, .int 0, .int 0, .ref 70, .ref 71]) rfl rfl rfl (hh 41 (Nat.le_of_ble_eq_true rfl)) (Nat.le_of_ble_eq_true rfl) (Nat.le_of_ble_eq_true rfl) (Nat.le_of_ble_eq_true rfl) rfl (Or.inl rfl) rfl rfl ?_
  refine pm_R_lo pm_M294 (pc' := 6) rfl rfl rfl ?_
  refine pm_R_op pm_M294 (pc' := 7) (st' := [.int 0, .int 1]) rfl rfl rfl ?_
  refine pm_R_op pm_M294 (pc' := 8) (st' := [.int 3, .int 0, .int 1]) rfl rfl rfl ?_
  refine pm_R_cs pm_M294 (pc' := 11) (ra := [.int 3, .int 0, .int 1]) (rest := []) (ls' := [.int 1, .int 0, .int 3]) rfl rfl (Or.inl rfl) pm_M174 rfl rfl (Nat.le_of_ble_eq_true rfl) rfl rfl ?_
  refine pm_R_lo pm_M174 (pc' := 1) rfl rfl rfl ?_
  refine pm_R_lo pm_M174 (pc' := 2) rfl rfl rfl ?_
  refine pm_R_br pm_M174 (pc' := 5) (st' := []) rfl rfl ?_
  refine pm_R_lo pm_M174 (pc' := 6) rfl rfl rfl ?_
  refine pm_R_lo pm_M174 (pc' := 7) rfl rfl rfl ?_
  refine pm_R_br pm_M174 (pc' := 10) (st' := []) rfl rfl ?_
  refine pm_R_op pm_M174 (pc' := 11) (st' := [.int 1]) rfl rfl rfl ?_
  refine pm_R_br pm_M174 (pc' := 15) rfl rfl ?_
  refine pm_R_ret pm_M174 (r := some (.int 1)) rfl rfl ?_
  show pm_R _ 294 11 [.ref 41, .int 1] [.int 1] _ _
  refine pm_R_br pm_M294 (pc' := 14) (st' := []) rfl rfl ?_
  refine pm_R_lo pm_M294 (pc' := 15) rfl rfl rfl ?_
  refine pm_R_get pm_M294 (pc' := 18) (v := .ref 46) rfl rfl rfl (Nat.le_of_ble_eq_true rfl) (Nat.le_of_ble_eq_true rfl) rfl rfl ?_
  refine pm_R_lo pm_M294 (pc' := 19) rfl rfl rfl ?_
  refine pm_R_iald pm_M294 (pc' := 20) (v := 0) rfl (hh 46 (Nat.le_of_ble_eq_true rfl)) (Nat.le_of_ble_eq_true rfl) rfl rfl rfl ?_
  refine pm_R_br pm_M294 (pc' := 25) rfl rfl ?_
  refine pm_R_ret pm_M294 (r := some (.int 0)) rfl rfl ?_
  show pm_R _ 0 2070 [.ref 0, .ref 16, .ref 41, .int 0] [.int 0, .int 0] _ _
  refine pm_R_br pm_M0 (pc' := 2121) (st' := []) (pm_q0_26 (Nat.le_of_ble_eq_true rfl)) rfl ?_
  exact p1_tail (hh 0 (Nat.le_of_ble_eq_true rfl)) (Nat.le_of_ble_eq_true rfl) (Nat.le_of_ble_eq_true rfl) (Nat.le_of_ble_eq_true rfl)
set_option maxRecDepth 100000 in
set_option maxHeartbeats 40000000 in
theorem p1_c40_eq2 (xs : Nat → Int32) (f : Nat → pm_E) (hh : ∀ i, i < 72 → f i = pm_fF 7 xs i) (x0 x1 x2 x3 x4 x5 x6 : Int32) (hx0 : xs 0 = x0) (hx1 : xs 1 = x1) (hx2 : xs 2 = x2) (hx3 : xs 3 = x3) (hx4 : xs 4 = x4) (hx5 : xs 5 = x5) (hx6 : xs 6 = x6) (hv : x1 = 2) : pm_R 100 0 2052 [.ref 0, .ref 16, .ref 41, .int 0] [] (72, 52657, f) p1_Q := by
  subst hv
  refine pm_R_lo pm_M0 (pc' := 2053) (pm_q0_26 (Nat.le_of_ble_eq_true rfl)) rfl rfl ?_
  refine pm_R_lo pm_M0 (pc' := 2054) (pm_q0_26 (Nat.le_of_ble_eq_true rfl)) rfl rfl ?_
  refine pm_R_lo pm_M0 (pc' := 2055) (pm_q0_26 (Nat.le_of_ble_eq_true rfl)) rfl rfl ?_
  refine pm_R_op pm_M0 (pc' := 2056) (st' := [.int 1, .int 0, .ref 0, .ref 16]) (pm_q0_26 (Nat.le_of_ble_eq_true rfl)) rfl rfl ?_
  refine pm_R_op pm_M0 (pc' := 2057) (st' := [.int 1, .ref 0, .ref 16]) (pm_q0_26 (Nat.le_of_ble_eq_true rfl)) rfl rfl ?_
  refine pm_R_iald pm_M0 (pc' := 2058) (v := 2) (pm_q0_26 (Nat.le_of_ble_eq_true rfl)) (hh 0 (Nat.le_of_ble_eq_true rfl)) (Nat.le_of_ble_eq_true rfl) rfl hx1 rfl ?_
  refine pm_R_cv pm_M0 (pc' := 2061) (a := 16) (ra := [.int 2]) (rest := []) (ls' := [.ref 16, .int 2]) (pm_q0_26 (Nat.le_of_ble_eq_true rfl)) rfl (Or.inl rfl) pm_M56 (hh 16 (Nat.le_of_ble_eq_true rfl)) rfl (Nat.le_of_ble_eq_true rfl) (Nat.le_of_ble_eq_true rfl) rfl rfl (Nat.le_of_ble_eq_true rfl) rfl rfl ?_
  refine pm_R_lo pm_M56 (pc' := 1) rfl rfl rfl ?_
  refine pm_R_br pm_M56 (pc' := 4) (st' := []) rfl rfl ?_
  refine pm_R_lo pm_M56 (pc' := 5) rfl rfl rfl ?_
  refine pm_R_op pm_M56 (pc' := 6) (st' := [.int 4, .int 2]) rfl rfl rfl ?_
  refine pm_R_br pm_M56 (pc' := 14) (st' := []) rfl rfl ?_
  refine pm_R_lo pm_M56 (pc' := 15) rfl rfl rfl ?_
  refine pm_R_get pm_M56 (pc' := 18) (v := .ref 17) rfl rfl (hh 16 (Nat.le_of_ble_eq_true rfl)) (Nat.le_of_ble_eq_true rfl) (Nat.le_of_ble_eq_true rfl) rfl rfl ?_
  refine pm_R_get pm_M56 (pc' := 21) (v := .ref 23) rfl rfl (hh 17 (Nat.le_of_ble_eq_true rfl)) (Nat.le_of_ble_eq_true rfl) (Nat.le_of_ble_eq_true rfl) rfl rfl ?_
  refine pm_R_lo pm_M56 (pc' := 22) rfl rfl rfl ?_
  refine pm_R_iald pm_M56 (pc' := 23) (v := 0) rfl (hh 23 (Nat.le_of_ble_eq_true rfl)) (Nat.le_of_ble_eq_true rfl) rfl rfl rfl ?_
  refine pm_R_ret pm_M56 (r := some (.int 0)) rfl rfl ?_
  show pm_R _ 0 2061 [.ref 0, .ref 16, .ref 41, .int 0] [.int 0] _ _
  refine pm_R_lo pm_M0 (pc' := 2062) (pm_q0_26 (Nat.le_of_ble_eq_true rfl)) rfl rfl ?_
  refine pm_R_lo pm_M0 (pc' := 2063) (pm_q0_26 (Nat.le_of_ble_eq_true rfl)) rfl rfl ?_
  refine pm_R_lo pm_M0 (pc' := 2064) (pm_q0_26 (Nat.le_of_ble_eq_true rfl)) rfl rfl ?_
  refine pm_R_op pm_M0 (pc' := 2065) (st' := [.int 1, .int 0, .ref 0, .ref 41, .int 0]) (pm_q0_26 (Nat.le_of_ble_eq_true rfl)) rfl rfl ?_
  refine pm_R_op pm_M0 (pc' := 2066) (st' := [.int 1, .ref 0, .ref 41, .int 0]) (pm_q0_26 (Nat.le_of_ble_eq_true rfl)) rfl rfl ?_
  refine pm_R_iald pm_M0 (pc' := 2067) (v := 2) (pm_q0_26 (Nat.le_of_ble_eq_true rfl)) (hh 0 (Nat.le_of_ble_eq_true rfl)) (Nat.le_of_ble_eq_true rfl) rfl hx1 rfl ?_
  refine pm_R_cv pm_M0 (pc' := 2070) (a := 41) (ra := [.int 2]) (rest := [.int 0]) (ls' := [.ref 41, .int 2]) (pm_q0_26 (Nat.le_of_ble_eq_true rfl)) rfl (Or.inl rfl) pm_M294 (hh 41 (Nat.le_of_ble_eq_true rfl)) rfl (Nat.le_of_ble_eq_true rfl) (Nat.le_of_ble_eq_true rfl) rfl rfl (Nat.le_of_ble_eq_true rfl) rfl rfl ?_
  refine pm_R_lo pm_M294 (pc' := 1) rfl rfl rfl ?_
  refine pm_R_op pm_M294 (pc' := 2) (st' := [.int 0, .ref 41]) rfl rfl rfl ?_
  refine pm_R_put pm_M294 (pc' := 5) (fs' := [.int 0, .ref 42, .ref 43, .ref 44, .ref 45, .ref 46, .ref 47, .ref 48, .ref 49, .ref 50, .int 0, .int 0, .int 0, .int 0, .int 0, .long 0, .int 0, .int 0, .int 0, .ref 51, .ref 52, .int 0, .int 0, .int 0, .int 0, .ref 53, .int 0, .int 0, .ref 54, .ref 55, .ref 56, .int 0, .ref 57, .ref 58, .ref 59, .ref 60, .ref 61, .ref 62, .ref 63, .ref 64, .ref 65, .ref 66, .int 0, .int 0, .int 0, .ref 67, .ref 68, .int 0, .ref 69, .int 0, .int 0, .ref 70, .ref 71]) rfl rfl rfl (hh 41 (Nat.le_of_ble_eq_true rfl)) (Nat.le_of_ble_eq_true rfl) (Nat.le_of_ble_eq_true rfl) (Nat.le_of_ble_eq_true rfl) rfl (Or.inl rfl) rfl rfl ?_
  refine pm_R_lo pm_M294 (pc' := 6) rfl rfl rfl ?_
  refine pm_R_op pm_M294 (pc' := 7) (st' := [.int 0, .int 2]) rfl rfl rfl ?_
  refine pm_R_op pm_M294 (pc' := 8) (st' := [.int 3, .int 0, .int 2]) rfl rfl rfl ?_
  refine pm_R_cs pm_M294 (pc' := 11) (ra := [.int 3, .int 0, .int 2]) (rest := []) (ls' := [.int 2, .int 0, .int 3]) rfl rfl (Or.inl rfl) pm_M174 rfl rfl (Nat.le_of_ble_eq_true rfl) rfl rfl ?_
  refine pm_R_lo pm_M174 (pc' := 1) rfl rfl rfl ?_
  refine pm_R_lo pm_M174 (pc' := 2) rfl rfl rfl ?_
  refine pm_R_br pm_M174 (pc' := 5) (st' := []) rfl rfl ?_
  refine pm_R_lo pm_M174 (pc' := 6) rfl rfl rfl ?_
  refine pm_R_lo pm_M174 (pc' := 7) rfl rfl rfl ?_
  refine pm_R_br pm_M174 (pc' := 10) (st' := []) rfl rfl ?_
  refine pm_R_op pm_M174 (pc' := 11) (st' := [.int 1]) rfl rfl rfl ?_
  refine pm_R_br pm_M174 (pc' := 15) rfl rfl ?_
  refine pm_R_ret pm_M174 (r := some (.int 1)) rfl rfl ?_
  show pm_R _ 294 11 [.ref 41, .int 2] [.int 1] _ _
  refine pm_R_br pm_M294 (pc' := 14) (st' := []) rfl rfl ?_
  refine pm_R_lo pm_M294 (pc' := 15) rfl rfl rfl ?_
  refine pm_R_get pm_M294 (pc' := 18) (v := .ref 46) rfl rfl rfl (Nat.le_of_ble_eq_true rfl) (Nat.le_of_ble_eq_true rfl) rfl rfl ?_
  refine pm_R_lo pm_M294 (pc' := 19) rfl rfl rfl ?_
  refine pm_R_iald pm_M294 (pc' := 20) (v := 0) rfl (hh 46 (Nat.le_of_ble_eq_true rfl)) (Nat.le_of_ble_eq_true rfl) rfl rfl rfl ?_
  refine pm_R_br pm_M294 (pc' := 25) rfl rfl ?_
  refine pm_R_ret pm_M294 (r := some (.int 0)) rfl rfl ?_
  show pm_R _ 0 2070 [.ref 0, .ref 16, .ref 41, .int 0] [.int 0, .int 0] _ _
  refine pm_R_br pm_M0 (pc' := 2121) (st' := []) (pm_q0_26 (Nat.le_of_ble_eq_true rfl)) rfl ?_
  exact p1_tail (hh 0 (Nat.le_of_ble_eq_true rfl)) (Nat.le_of_ble_eq_true rfl) (Nat.le_of_ble_eq_true rfl) (Nat.le_of_ble_eq_true rfl)
set_option maxRecDepth 100000 in
set_option maxHeartbeats 40000000 in
theorem p1_c40_eq3 (xs : Nat → Int32) (f : Nat → pm_E) (hh : ∀ i, i < 72 → f i = pm_fF 7 xs i) (x0 x1 x2 x3 x4 x5 x6 : Int32) (hx0 : xs 0 = x0) (hx1 : xs 1 = x1) (hx2 : xs 2 = x2) (hx3 : xs 3 = x3) (hx4 : xs 4 = x4) (hx5 : xs 5 = x5) (hx6 : xs 6 = x6) (hv : x1 = 3) : pm_R 100 0 2052 [.ref 0, .ref 16, .ref 41, .int 0] [] (72, 52657, f) p1_Q := by
  subst hv
  refine pm_R_lo pm_M0 (pc' := 2053) (pm_q0_26 (Nat.le_of_ble_eq_true rfl)) rfl rfl ?_
  refine pm_R_lo pm_M0 (pc' := 2054) (pm_q0_26 (Nat.le_of_ble_eq_true rfl)) rfl rfl ?_
  refine pm_R_lo pm_M0 (pc' := 2055) (pm_q0_26 (Nat.le_of_ble_eq_true rfl)) rfl rfl ?_
  refine pm_R_op pm_M0 (pc' := 2056) (st' := [.int 1, .int 0, .ref 0, .ref 16]) (pm_q0_26 (Nat.le_of_ble_eq_true rfl)) rfl rfl ?_
  refine pm_R_op pm_M0 (pc' := 2057) (st' := [.int 1, .ref 0, .ref 16]) (pm_q0_26 (Nat.le_of_ble_eq_true rfl)) rfl rfl ?_
  refine pm_R_iald pm_M0 (pc' := 2058) (v := 3) (pm_q0_26 (Nat.le_of_ble_eq_true rfl)) (hh 0 (Nat.le_of_ble_eq_true rfl)) (Nat.le_of_ble_eq_true rfl) rfl hx1 rfl ?_
  refine pm_R_cv pm_M0 (pc' := 2061) (a := 16) (ra := [.int 3]) (rest := []) (ls' := [.ref 16, .int 3]) (pm_q0_26 (Nat.le_of_ble_eq_true rfl)) rfl (Or.inl rfl) pm_M56 (hh 16 (Nat.le_of_ble_eq_true rfl)) rfl (Nat.le_of_ble_eq_true rfl) (Nat.le_of_ble_eq_true rfl) rfl rfl (Nat.le_of_ble_eq_true rfl) rfl rfl ?_
  refine pm_R_lo pm_M56 (pc' := 1) rfl rfl rfl ?_
  refine pm_R_br pm_M56 (pc' := 4) (st' := []) rfl rfl ?_
  refine pm_R_lo pm_M56 (pc' := 5) rfl rfl rfl ?_
  refine pm_R_op pm_M56 (pc' := 6) (st' := [.int 4, .int 3]) rfl rfl rfl ?_
  refine pm_R_br pm_M56 (pc' := 14) (st' := []) rfl rfl ?_
  refine pm_R_lo pm_M56 (pc' := 15) rfl rfl rfl ?_
  refine pm_R_get pm_M56 (pc' := 18) (v := .ref 17) rfl rfl (hh 16 (Nat.le_of_ble_eq_true rfl)) (Nat.le_of_ble_eq_true rfl) (Nat.le_of_ble_eq_true rfl) rfl rfl ?_
  refine pm_R_get pm_M56 (pc' := 21) (v := .ref 23) rfl rfl (hh 17 (Nat.le_of_ble_eq_true rfl)) (Nat.le_of_ble_eq_true rfl) (Nat.le_of_ble_eq_true rfl) rfl rfl ?_
  refine pm_R_lo pm_M56 (pc' := 22) rfl rfl rfl ?_
  refine pm_R_iald pm_M56 (pc' := 23) (v := 0) rfl (hh 23 (Nat.le_of_ble_eq_true rfl)) (Nat.le_of_ble_eq_true rfl) rfl rfl rfl ?_
  refine pm_R_ret pm_M56 (r := some (.int 0)) rfl rfl ?_
  show pm_R _ 0 2061 [.ref 0, .ref 16, .ref 41, .int 0] [.int 0] _ _
  refine pm_R_lo pm_M0 (pc' := 2062) (pm_q0_26 (Nat.le_of_ble_eq_true rfl)) rfl rfl ?_
  refine pm_R_lo pm_M0 (pc' := 2063) (pm_q0_26 (Nat.le_of_ble_eq_true rfl)) rfl rfl ?_
  refine pm_R_lo pm_M0 (pc' := 2064) (pm_q0_26 (Nat.le_of_ble_eq_true rfl)) rfl rfl ?_
  refine pm_R_op pm_M0 (pc' := 2065) (st' := [.int 1, .int 0, .ref 0, .ref 41, .int 0]) (pm_q0_26 (Nat.le_of_ble_eq_true rfl)) rfl rfl ?_
  refine pm_R_op pm_M0 (pc' := 2066) (st' := [.int 1, .ref 0, .ref 41, .int 0]) (pm_q0_26 (Nat.le_of_ble_eq_true rfl)) rfl rfl ?_
  refine pm_R_iald pm_M0 (pc' := 2067) (v := 3) (pm_q0_26 (Nat.le_of_ble_eq_true rfl)) (hh 0 (Nat.le_of_ble_eq_true rfl)) (Nat.le_of_ble_eq_true rfl) rfl hx1 rfl ?_
  refine pm_R_cv pm_M0 (pc' := 2070) (a := 41) (ra := [.int 3]) (rest := [.int 0]) (ls' := [.ref 41, .int 3]) (pm_q0_26 (Nat.le_of_ble_eq_true rfl)) rfl (Or.inl rfl) pm_M294 (hh 41 (Nat.le_of_ble_eq_true rfl)) rfl (Nat.le_of_ble_eq_true rfl) (Nat.le_of_ble_eq_true rfl) rfl rfl (Nat.le_of_ble_eq_true rfl) rfl rfl ?_
  refine pm_R_lo pm_M294 (pc' := 1) rfl rfl rfl ?_
  refine pm_R_op pm_M294 (pc' := 2) (st' := [.int 0, .ref 41]) rfl rfl rfl ?_
  refine pm_R_put pm_M294 (pc' := 5) (fs' := [.int 0, .ref 42, .ref 43, .ref 44, .ref 45, .ref 46, .ref 47, .ref 48, .ref 49, .ref 50, .int 0, .int 0, .int 0, .int 0, .int 0, .long 0, .int 0, .int 0, .int 0, .ref 51, .ref 52, .int 0, .int 0, .int 0, .int 0, .ref 53, .int 0, .int 0, .ref 54, .ref 55, .ref 56, .int 0, .ref 57, .ref 58, .ref 59, .ref 60, .ref 61, .ref 62, .ref 63, .ref 64, .ref 65, .ref 66, .int 0, .int 0, .int 0, .ref 67, .ref 68, .int 0, .ref 69, .int 0, .int 0, .ref 70, .ref 71]) rfl rfl rfl (hh 41 (Nat.le_of_ble_eq_true rfl)) (Nat.le_of_ble_eq_true rfl) (Nat.le_of_ble_eq_true rfl) (Nat.le_of_ble_eq_true rfl) rfl (Or.inl rfl) rfl rfl ?_
  refine pm_R_lo pm_M294 (pc' := 6) rfl rfl rfl ?_
  refine pm_R_op pm_M294 (pc' := 7) (st' := [.int 0, .int 3]) rfl rfl rfl ?_
  refine pm_R_op pm_M294 (pc' := 8) (st' := [.int 3, .int 0, .int 3]) rfl rfl rfl ?_
  refine pm_R_cs pm_M294 (pc' := 11) (ra := [.int 3, .int 0, .int 3]) (rest := []) (ls' := [.int 3, .int 0, .int 3]) rfl rfl (Or.inl rfl) pm_M174 rfl rfl (Nat.le_of_ble_eq_true rfl) rfl rfl ?_
  refine pm_R_lo pm_M174 (pc' := 1) rfl rfl rfl ?_
  refine pm_R_lo pm_M174 (pc' := 2) rfl rfl rfl ?_
  refine pm_R_br pm_M174 (pc' := 5) (st' := []) rfl rfl ?_
  refine pm_R_lo pm_M174 (pc' := 6) rfl rfl rfl ?_
  refine pm_R_lo pm_M174 (pc' := 7) rfl rfl rfl ?_
  refine pm_R_br pm_M174 (pc' := 10) (st' := []) rfl rfl ?_
  refine pm_R_op pm_M174 (pc' := 11) (st' := [.int 1]) rfl rfl rfl ?_
  refine pm_R_br pm_M174 (pc' := 15) rfl rfl ?_
  refine pm_R_ret pm_M174 (r := some (.int 1)) rfl rfl ?_
  show pm_R _ 294 11 [.ref 41, .int 3] [.int 1] _ _
  refine pm_R_br pm_M294 (pc' := 14) (st' := []) rfl rfl ?_
  refine pm_R_lo pm_M294 (pc' := 15) rfl rfl rfl ?_
  refine pm_R_get pm_M294 (pc' := 18) (v := .ref 46) rfl rfl rfl (Nat.le_of_ble_eq_true rfl) (Nat.le_of_ble_eq_true rfl) rfl rfl ?_
  refine pm_R_lo pm_M294 (pc' := 19) rfl rfl rfl ?_
  refine pm_R_iald pm_M294 (pc' := 20) (v := 0) rfl (hh 46 (Nat.le_of_ble_eq_true rfl)) (Nat.le_of_ble_eq_true rfl) rfl rfl rfl ?_
  refine pm_R_br pm_M294 (pc' := 25) rfl rfl ?_
  refine pm_R_ret pm_M294 (r := some (.int 0)) rfl rfl ?_
  show pm_R _ 0 2070 [.ref 0, .ref 16, .ref 41, .int 0] [.int 0, .int 0] _ _
  refine pm_R_br pm_M0 (pc' := 2121) (st' := []) (pm_q0_26 (Nat.le_of_ble_eq_true rfl)) rfl ?_
  exact p1_tail (hh 0 (Nat.le_of_ble_eq_true rfl)) (Nat.le_of_ble_eq_true rfl) (Nat.le_of_ble_eq_true rfl) (Nat.le_of_ble_eq_true rfl)
set_option maxRecDepth 100000 in
set_option maxHeartbeats 40000000 in
theorem p1_c41_lo (xs : Nat → Int32) (f : Nat → pm_E) (hh : ∀ i, i < 72 → f i = pm_fF 7 xs i) (x0 x1 x2 x3 x4 x5 x6 : Int32) (hx0 : xs 0 = x0) (hx1 : xs 1 = x1) (hx2 : xs 2 = x2) (hx3 : xs 3 = x3) (hx4 : xs 4 = x4) (hx5 : xs 5 = x5) (hx6 : xs 6 = x6) (hv : x1 < 0) : pm_R 100 0 2075 [.ref 0, .ref 16, .ref 41, .int 0] [] (72, 52657, f) p1_Q := by
  refine pm_R_lo pm_M0 (pc' := 2076) (pm_q0_26 (Nat.le_of_ble_eq_true rfl)) rfl rfl ?_
  refine pm_R_lo pm_M0 (pc' := 2077) (pm_q0_26 (Nat.le_of_ble_eq_true rfl)) rfl rfl ?_
  refine pm_R_lo pm_M0 (pc' := 2078) (pm_q0_26 (Nat.le_of_ble_eq_true rfl)) rfl rfl ?_
  refine pm_R_op pm_M0 (pc' := 2079) (st' := [.int 1, .int 0, .ref 0, .ref 16]) (pm_q0_26 (Nat.le_of_ble_eq_true rfl)) rfl rfl ?_
  refine pm_R_op pm_M0 (pc' := 2080) (st' := [.int 1, .ref 0, .ref 16]) (pm_q0_26 (Nat.le_of_ble_eq_true rfl)) rfl rfl ?_
  refine pm_R_iald pm_M0 (pc' := 2081) (v := x1) (pm_q0_27 (Nat.le_of_ble_eq_true rfl)) (hh 0 (Nat.le_of_ble_eq_true rfl)) (Nat.le_of_ble_eq_true rfl) rfl hx1 rfl ?_
  refine pm_R_cv pm_M0 (pc' := 2084) (a := 16) (ra := [.int x1]) (rest := []) (ls' := [.ref 16, .int x1]) (pm_q0_27 (Nat.le_of_ble_eq_true rfl)) rfl (Or.inl rfl) pm_M57 (hh 16 (Nat.le_of_ble_eq_true rfl)) rfl (Nat.le_of_ble_eq_true rfl) (Nat.le_of_ble_eq_true rfl) rfl rfl (Nat.le_of_ble_eq_true rfl) rfl rfl ?_
  refine pm_R_lo pm_M57 (pc' := 1) rfl rfl rfl ?_
  refine pm_R_ifc pm_M57 (t := 9) (pc' := 4) rfl rfl rfl (fun c_1 => ?_) (fun c_1 => by exact absurd hv c_1)
  refine pm_R_op pm_M57 (pc' := 10) (st' := [.int 0]) rfl rfl rfl ?_
  refine pm_R_ret pm_M57 (r := some (.int 0)) rfl rfl ?_
  show pm_R _ 0 2084 [.ref 0, .ref 16, .ref 41, .int 0] [.int 0] _ _
  refine pm_R_lo pm_M0 (pc' := 2085) (pm_q0_27 (Nat.le_of_ble_eq_true rfl)) rfl rfl ?_
  refine pm_R_lo pm_M0 (pc' := 2086) (pm_q0_27 (Nat.le_of_ble_eq_true rfl)) rfl rfl ?_
  refine pm_R_lo pm_M0 (pc' := 2087) (pm_q0_27 (Nat.le_of_ble_eq_true rfl)) rfl rfl ?_
  refine pm_R_op pm_M0 (pc' := 2088) (st' := [.int 1, .int 0, .ref 0, .ref 41, .int 0]) (pm_q0_27 (Nat.le_of_ble_eq_true rfl)) rfl rfl ?_
  refine pm_R_op pm_M0 (pc' := 2089) (st' := [.int 1, .ref 0, .ref 41, .int 0]) (pm_q0_27 (Nat.le_of_ble_eq_true rfl)) rfl rfl ?_
  refine pm_R_iald pm_M0 (pc' := 2090) (v := x1) (pm_q0_27 (Nat.le_of_ble_eq_true rfl)) (hh 0 (Nat.le_of_ble_eq_true rfl)) (Nat.le_of_ble_eq_true rfl) rfl hx1 rfl ?_
  refine pm_R_cv pm_M0 (pc' := 2093) (a := 41) (ra := [.int x1]) (rest := [.int 0]) (ls' := [.ref 41, .int x1]) (pm_q0_27 (Nat.le_of_ble_eq_true rfl)) rfl (Or.inl rfl) pm_M295 (hh 41 (Nat.le_of_ble_eq_true rfl)) rfl (Nat.le_of_ble_eq_true rfl) (Nat.le_of_ble_eq_true rfl) rfl rfl (Nat.le_of_ble_eq_true rfl) rfl rfl ?_
  refine pm_R_lo pm_M295 (pc' := 1) rfl rfl rfl ?_
  refine pm_R_op pm_M295 (pc' := 2) (st' := [.int 0, .ref 41]) rfl rfl rfl ?_
  refine pm_R_put pm_M295 (pc' := 5) (fs' := [.int 0, .ref 42, .ref 43, .ref 44, .ref 45, .ref 46, .ref 47, .ref 48, .ref 49, .ref 50, .int 0, .int 0, .int 0, .int 0, .int 0, .long 0, .int 0, .int 0, .int 0, .ref 51, .ref 52, .int 0, .int 0, .int 0, .int 0, .ref 53, .int 0, .int 0, .ref 54, .ref 55, .ref 56, .int 0, .ref 57, .ref 58, .ref 59, .ref 60, .ref 61, .ref 62, .ref 63, .ref 64, .ref 65, .ref 66, .int 0, .int 0, .int 0, .ref 67, .ref 68, .int 0, .ref 69, .int 0, .int 0, .ref 70, .ref 71]) rfl rfl rfl (hh 41 (Nat.le_of_ble_eq_true rfl)) (Nat.le_of_ble_eq_true rfl) (Nat.le_of_ble_eq_true rfl) (Nat.le_of_ble_eq_true rfl) rfl (Or.inl rfl) rfl rfl ?_
  refine pm_R_lo pm_M295 (pc' := 6) rfl rfl rfl ?_
  refine pm_R_op pm_M295 (pc' := 7) (st' := [.int 0, .int x1]) rfl rfl rfl ?_
  refine pm_R_op pm_M295 (pc' := 8) (st' := [.int 2, .int 0, .int x1]) rfl rfl rfl ?_
  refine pm_R_cs pm_M295 (pc' := 11) (ra := [.int 2, .int 0, .int x1]) (rest := []) (ls' := [.int x1, .int 0, .int 2]) rfl rfl (Or.inl rfl) pm_M174 rfl rfl (Nat.le_of_ble_eq_true rfl) rfl rfl ?_
  refine pm_R_lo pm_M174 (pc' := 1) rfl rfl rfl ?_
  refine pm_R_lo pm_M174 (pc' := 2) rfl rfl rfl ?_
  refine pm_R_icmp pm_M174 (t := 14) (pc' := 5) rfl rfl rfl (fun c_2 => ?_) (fun c_2 => by exact absurd hv c_2)
  refine pm_R_op pm_M174 (pc' := 15) (st' := [.int 0]) rfl rfl rfl ?_
  refine pm_R_ret pm_M174 (r := some (.int 0)) rfl rfl ?_
  show pm_R _ 295 11 [.ref 41, .int x1] [.int 0] _ _
  refine pm_R_br pm_M295 (pc' := 14) (st' := []) rfl rfl ?_
  refine pm_R_op pm_M295 (pc' := 15) (st' := [.int 0]) rfl rfl rfl ?_
  refine pm_R_ret pm_M295 (r := some (.int 0)) rfl rfl ?_
  show pm_R _ 0 2093 [.ref 0, .ref 16, .ref 41, .int 0] [.int 0, .int 0] _ _
  refine pm_R_br pm_M0 (pc' := 2121) (st' := []) (pm_q0_27 (Nat.le_of_ble_eq_true rfl)) rfl ?_
  exact p1_tail (hh 0 (Nat.le_of_ble_eq_true rfl)) (Nat.le_of_ble_eq_true rfl) (Nat.le_of_ble_eq_true rfl) (Nat.le_of_ble_eq_true rfl)
set_option maxRecDepth 100000 in
set_option maxHeartbeats 40000000 in
theorem p1_c41_hi (xs : Nat → Int32) (f : Nat → pm_E) (hh : ∀ i, i < 72 → f i = pm_fF 7 xs i) (x0 x1 x2 x3 x4 x5 x6 : Int32) (hx0 : xs 0 = x0) (hx1 : xs 1 = x1) (hx2 : xs 2 = x2) (hx3 : xs 3 = x3) (hx4 : xs 4 = x4) (hx5 : xs 5 = x5) (hx6 : xs 6 = x6) (hv : (3 : Int32) ≤ x1) : pm_R 100 0 2075 [.ref 0, .ref 16, .ref 41, .int 0] [] (72, 52657, f) p1_Q := by
  have hv0 : ¬ x1 < 0 := fun q => absurd (Int32.lt_of_lt_of_le q (by decide : (0 : Int32) ≤ 3)) (fun q2 => absurd hv (Int32.not_le.mpr q2))
  have hv1 : (2 : Int32) < x1 := Int32.lt_of_lt_of_le (by decide) hv
  refine pm_R_lo pm_M0 (pc' := 2076) (pm_q0_26 (Nat.le_of_ble_eq_true rfl)) rfl rfl ?_
  refine pm_R_lo pm_M0 (pc' := 2077) (pm_q0_26 (Nat.le_of_ble_eq_true rfl)) rfl rfl ?_
  refine pm_R_lo pm_M0 (pc' := 2078) (pm_q0_26 (Nat.le_of_ble_eq_true rfl)) rfl rfl ?_
  refine pm_R_op pm_M0 (pc' := 2079) (st' := [.int 1, .int 0, .ref 0, .ref 16]) (pm_q0_26 (Nat.le_of_ble_eq_true rfl)) rfl rfl ?_
  refine pm_R_op pm_M0 (pc' := 2080) (st' := [.int 1, .ref 0, .ref 16]) (pm_q0_26 (Nat.le_of_ble_eq_true rfl)) rfl rfl ?_
  refine pm_R_iald pm_M0 (pc' := 2081) (v := x1) (pm_q0_27 (Nat.le_of_ble_eq_true rfl)) (hh 0 (Nat.le_of_ble_eq_true rfl)) (Nat.le_of_ble_eq_true rfl) rfl hx1 rfl ?_
  refine pm_R_cv pm_M0 (pc' := 2084) (a := 16) (ra := [.int x1]) (rest := []) (ls' := [.ref 16, .int x1]) (pm_q0_27 (Nat.le_of_ble_eq_true rfl)) rfl (Or.inl rfl) pm_M57 (hh 16 (Nat.le_of_ble_eq_true rfl)) rfl (Nat.le_of_ble_eq_true rfl) (Nat.le_of_ble_eq_true rfl) rfl rfl (Nat.le_of_ble_eq_true rfl) rfl rfl ?_
  refine pm_R_lo pm_M57 (pc' := 1) rfl rfl rfl ?_
  refine pm_R_ifc pm_M57 (t := 9) (pc' := 4) rfl rfl rfl (fun c_1 => by exact absurd c_1 hv0) (fun c_1 => ?_)
  refine pm_R_lo pm_M57 (pc' := 5) rfl rfl rfl ?_
  refine pm_R_op pm_M57 (pc' := 6) (st' := [.int 3, .int x1]) rfl rfl rfl ?_
  refine pm_R_icmp pm_M57 (t := 11) (pc' := 9) rfl rfl rfl (fun c_2 => by first | exact absurd c_2 hv | exact absurd hv c_2 | exact absurd (Int32.not_lt.mp c_2) hv | exact absurd (Int32.not_le.mp c_2) hv | exact absurd (Int32.not_lt.mpr c_2) hv | exact absurd (Int32.not_le.mpr c_2) hv | exact absurd hv (Int32.not_le.mpr c_2) | exact absurd hv (Int32.not_lt.mpr c_2)) (fun c_2 => ?_)
  refine pm_R_op pm_M57 (pc' := 10) (st' := [.int 0]) rfl rfl rfl ?_
  refine pm_R_ret pm_M57 (r := some (.int 0)) rfl rfl ?_
  show pm_R _ 0 2084 [.ref 0, .ref 16, .ref 41, .int 0] [.int 0] _ _
  refine pm_R_lo pm_M0 (pc' := 2085) (pm_q0_27 (Nat.le_of_ble_eq_true rfl)) rfl rfl ?_
  refine pm_R_lo pm_M0 (pc' := 2086) (pm_q0_27 (Nat.le_of_ble_eq_true rfl)) rfl rfl ?_
  refine pm_R_lo pm_M0 (pc' := 2087) (pm_q0_27 (Nat.le_of_ble_eq_true rfl)) rfl rfl ?_
  refine pm_R_op pm_M0 (pc' := 2088) (st' := [.int 1, .int 0, .ref 0, .ref 41, .int 0]) (pm_q0_27 (Nat.le_of_ble_eq_true rfl)) rfl rfl ?_
  refine pm_R_op pm_M0 (pc' := 2089) (st' := [.int 1, .ref 0, .ref 41, .int 0]) (pm_q0_27 (Nat.le_of_ble_eq_true rfl)) rfl rfl ?_
  refine pm_R_iald pm_M0 (pc' := 2090) (v := x1) (pm_q0_27 (Nat.le_of_ble_eq_true rfl)) (hh 0 (Nat.le_of_ble_eq_true rfl)) (Nat.le_of_ble_eq_true rfl) rfl hx1 rfl ?_
  refine pm_R_cv pm_M0 (pc' := 2093) (a := 41) (ra := [.int x1]) (rest := [.int 0]) (ls' := [.ref 41, .int x1]) (pm_q0_27 (Nat.le_of_ble_eq_true rfl)) rfl (Or.inl rfl) pm_M295 (hh 41 (Nat.le_of_ble_eq_true rfl)) rfl (Nat.le_of_ble_eq_true rfl) (Nat.le_of_ble_eq_true rfl) rfl rfl (Nat.le_of_ble_eq_true rfl) rfl rfl ?_
  refine pm_R_lo pm_M295 (pc' := 1) rfl rfl rfl ?_
  refine pm_R_op pm_M295 (pc' := 2) (st' := [.int 0, .ref 41]) rfl rfl rfl ?_
  refine pm_R_put pm_M295 (pc' := 5) (fs' := [.int 0, .ref 42, .ref 43, .ref 44, .ref 45, .ref 46, .ref 47, .ref 48, .ref 49, .ref 50, .int 0, .int 0, .int 0, .int 0, .int 0, .long 0, .int 0, .int 0, .int 0, .ref 51, .ref 52, .int 0, .int 0, .int 0, .int 0, .ref 53, .int 0, .int 0, .ref 54, .ref 55, .ref 56, .int 0, .ref 57, .ref 58, .ref 59, .ref 60, .ref 61, .ref 62, .ref 63, .ref 64, .ref 65, .ref 66, .int 0, .int 0, .int 0, .ref 67, .ref 68, .int 0, .ref 69, .int 0, .int 0, .ref 70, .ref 71]) rfl rfl rfl (hh 41 (Nat.le_of_ble_eq_true rfl)) (Nat.le_of_ble_eq_true rfl) (Nat.le_of_ble_eq_true rfl) (Nat.le_of_ble_eq_true rfl) rfl (Or.inl rfl) rfl rfl ?_
  refine pm_R_lo pm_M295 (pc' := 6) rfl rfl rfl ?_
  refine pm_R_op pm_M295 (pc' := 7) (st' := [.int 0, .int x1]) rfl rfl rfl ?_
  refine pm_R_op pm_M295 (pc' := 8) (st' := [.int 2, .int 0, .int x1]) rfl rfl rfl ?_
  refine pm_R_cs pm_M295 (pc' := 11) (ra := [.int 2, .int 0, .int x1]) (rest := []) (ls' := [.int x1, .int 0, .int 2]) rfl rfl (Or.inl rfl) pm_M174 rfl rfl (Nat.le_of_ble_eq_true rfl) rfl rfl ?_
  refine pm_R_lo pm_M174 (pc' := 1) rfl rfl rfl ?_
  refine pm_R_lo pm_M174 (pc' := 2) rfl rfl rfl ?_
  refine pm_R_icmp pm_M174 (t := 14) (pc' := 5) rfl rfl rfl (fun c_3 => by exact absurd c_3 hv0) (fun c_3 => ?_)
  refine pm_R_lo pm_M174 (pc' := 6) rfl rfl rfl ?_
  refine pm_R_lo pm_M174 (pc' := 7) rfl rfl rfl ?_
  refine pm_R_icmp pm_M174 (t := 14) (pc' := 10) rfl rfl rfl (fun c_4 => ?_) (fun c_4 => by exact absurd hv1 c_4)
  refine pm_R_op pm_M174 (pc' := 15) (st' := [.int 0]) rfl rfl rfl ?_
  refine pm_R_ret pm_M174 (r := some (.int 0)) rfl rfl ?_
  show pm_R _ 295 11 [.ref 41, .int x1] [.int 0] _ _
  refine pm_R_br pm_M295 (pc' := 14) (st' := []) rfl rfl ?_
  refine pm_R_op pm_M295 (pc' := 15) (st' := [.int 0]) rfl rfl rfl ?_
  refine pm_R_ret pm_M295 (r := some (.int 0)) rfl rfl ?_
  show pm_R _ 0 2093 [.ref 0, .ref 16, .ref 41, .int 0] [.int 0, .int 0] _ _
  refine pm_R_br pm_M0 (pc' := 2121) (st' := []) (pm_q0_27 (Nat.le_of_ble_eq_true rfl)) rfl ?_
  exact p1_tail (hh 0 (Nat.le_of_ble_eq_true rfl)) (Nat.le_of_ble_eq_true rfl) (Nat.le_of_ble_eq_true rfl) (Nat.le_of_ble_eq_true rfl)
set_option maxRecDepth 100000 in
set_option maxHeartbeats 40000000 in
theorem p1_c41_eq0 (xs : Nat → Int32) (f : Nat → pm_E) (hh : ∀ i, i < 72 → f i = pm_fF 7 xs i) (x0 x1 x2 x3 x4 x5 x6 : Int32) (hx0 : xs 0 = x0) (hx1 : xs 1 = x1) (hx2 : xs 2 = x2) (hx3 : xs 3 = x3) (hx4 : xs 4 = x4) (hx5 : xs 5 = x5) (hx6 : xs 6 = x6) (hv : x1 = 0) : pm_R 100 0 2075 [.ref 0, .ref 16, .ref 41, .int 0] [] (72, 52657, f) p1_Q := by
  subst hv
  refine pm_R_lo pm_M0 (pc' := 2076) (pm_q0_26 (Nat.le_of_ble_eq_true rfl)) rfl rfl ?_
  refine pm_R_lo pm_M0 (pc' := 2077) (pm_q0_26 (Nat.le_of_ble_eq_true rfl)) rfl rfl ?_
  refine pm_R_lo pm_M0 (pc' := 2078) (pm_q0_26 (Nat.le_of_ble_eq_true rfl)) rfl rfl ?_
  refine pm_R_op pm_M0 (pc' := 2079) (st' := [.int 1, .int 0, .ref 0, .ref 16]) (pm_q0_26 (Nat.le_of_ble_eq_true rfl)) rfl rfl ?_
  refine pm_R_op pm_M0 (pc' := 2080) (st' := [.int 1, .ref 0, .ref 16]) (pm_q0_26 (Nat.le_of_ble_eq_true rfl)) rfl rfl ?_
  refine pm_R_iald pm_M0 (pc' := 2081) (v := 0) (pm_q0_27 (Nat.le_of_ble_eq_true rfl)) (hh 0 (Nat.le_of_ble_eq_true rfl)) (Nat.le_of_ble_eq_true rfl) rfl hx1 rfl ?_
  refine pm_R_cv pm_M0 (pc' := 2084) (a := 16) (ra := [.int 0]) (rest := []) (ls' := [.ref 16, .int 0]) (pm_q0_27 (Nat.le_of_ble_eq_true rfl)) rfl (Or.inl rfl) pm_M57 (hh 16 (Nat.le_of_ble_eq_true rfl)) rfl (Nat.le_of_ble_eq_true rfl) (Nat.le_of_ble_eq_true rfl) rfl rfl (Nat.le_of_ble_eq_true rfl) rfl rfl ?_
  refine pm_R_lo pm_M57 (pc' := 1) rfl rfl rfl ?_
  refine pm_R_br pm_M57 (pc' := 4) (st' := []) rfl rfl ?_
  refine pm_R_lo pm_M57 (pc' := 5) rfl rfl rfl ?_
  refine pm_R_op pm_M57 (pc' := 6) (st' := [.int 3, .int 0]) rfl rfl rfl ?_
  refine pm_R_br pm_M57 (pc' := 11) (st' := []) rfl rfl ?_
  refine pm_R_lo pm_M57 (pc' := 12) rfl rfl rfl ?_
  refine pm_R_get pm_M57 (pc' := 15) (v := .ref 24) rfl rfl (hh 16 (Nat.le_of_ble_eq_true rfl)) (Nat.le_of_ble_eq_true rfl) (Nat.le_of_ble_eq_true rfl) rfl rfl ?_
  refine pm_R_lo pm_M57 (pc' := 16) rfl rfl rfl ?_
  refine pm_R_aald pm_M57 (pc' := 17) (v := .null) rfl (hh 24 (Nat.le_of_ble_eq_true rfl)) (Nat.le_of_ble_eq_true rfl) (Nat.le_of_ble_eq_true rfl) (Nat.le_of_ble_eq_true rfl) (Nat.le_of_ble_eq_true rfl) rfl rfl rfl ?_
  refine pm_R_br pm_M57 (pc' := 20) rfl rfl ?_
  refine pm_R_lo pm_M57 (pc' := 21) rfl rfl rfl ?_
  refine pm_R_get pm_M57 (pc' := 24) (v := .ref 24) rfl rfl (hh 16 (Nat.le_of_ble_eq_true rfl)) (Nat.le_of_ble_eq_true rfl) (Nat.le_of_ble_eq_true rfl) rfl rfl ?_
  refine pm_R_lo pm_M57 (pc' := 25) rfl rfl rfl ?_
  refine pm_R_new pm_M57 (pc' := 28) (fs := [.null, .int 0, .int 0, .int 0, .null, .null, .null, .null, .null]) rfl rfl rfl rfl rfl ?_
  show pm_R _ 57 28 [.ref 16, .int 0] [.ref 72, .int 0, .ref 24] _ _
  refine pm_R_op pm_M57 (pc' := 29) (st' := [.ref 72, .ref 72, .int 0, .ref 24]) rfl rfl rfl ?_
  refine pm_R_ci pm_M57 (pc' := 32) (a := 72) (ra := []) (rest := [.ref 72, .int 0, .ref 24]) (ls' := [.ref 72]) rfl rfl (Or.inr rfl) pm_M2 rfl rfl (Nat.le_of_ble_eq_true rfl) rfl rfl ?_
  refine pm_R_lo pm_M2 (pc' := 1) rfl rfl rfl ?_
  refine pm_R_obj pm_M2 (pc' := 4) rfl rfl rfl (Nat.le_of_ble_eq_true rfl) rfl ?_
  refine pm_R_lo pm_M2 (pc' := 5) rfl rfl rfl ?_
  refine pm_R_op pm_M2 (pc' := 8) (st' := [.int 600, .ref 72]) rfl rfl rfl ?_
  refine pm_R_newa pm_M2 (pc' := 10) (N := 600) rfl rfl (by decide) rfl (Nat.le_of_ble_eq_true rfl) rfl ?_
  show pm_R _ 2 10 [.ref 72] [.ref 73, .ref 72] _ _
  refine pm_R_put pm_M2 (pc' := 13) (fs' := [.ref 73, .int 0, .int 0, .int 0, .null, .null, .null, .null, .null]) rfl rfl rfl rfl (Nat.le_of_ble_eq_true rfl) (Nat.le_of_ble_eq_true rfl) (Nat.le_of_ble_eq_true rfl) rfl (Or.inr ⟨pm_N2_ini, rfl, rfl⟩) rfl rfl ?_
  refine pm_R_lo pm_M2 (pc' := 14) rfl rfl rfl ?_
  refine pm_R_op pm_M2 (pc' := 15) (st' := [.int 0, .ref 72]) rfl rfl rfl ?_
  refine pm_R_put pm_M2 (pc' := 18) (fs' := [.ref 73, .int 0, .int 0, .int 0, .null, .null, .null, .null, .null]) rfl rfl rfl rfl (Nat.le_of_ble_eq_true rfl) (Nat.le_of_ble_eq_true rfl) (Nat.le_of_ble_eq_true rfl) rfl (Or.inl rfl) rfl rfl ?_
  refine pm_R_lo pm_M2 (pc' := 19) rfl rfl rfl ?_
  refine pm_R_op pm_M2 (pc' := 20) (st' := [.int 0, .ref 72]) rfl rfl rfl ?_
  refine pm_R_put pm_M2 (pc' := 23) (fs' := [.ref 73, .int 0, .int 0, .int 0, .null, .null, .null, .null, .null]) rfl rfl rfl rfl (Nat.le_of_ble_eq_true rfl) (Nat.le_of_ble_eq_true rfl) (Nat.le_of_ble_eq_true rfl) rfl (Or.inl rfl) rfl rfl ?_
  refine pm_R_lo pm_M2 (pc' := 24) rfl rfl rfl ?_
  refine pm_R_op pm_M2 (pc' := 25) (st' := [.int (-1), .ref 72]) rfl rfl rfl ?_
  refine pm_R_put pm_M2 (pc' := 28) (fs' := [.ref 73, .int 0, .int 0, .int (-1), .null, .null, .null, .null, .null]) rfl rfl rfl rfl (Nat.le_of_ble_eq_true rfl) (Nat.le_of_ble_eq_true rfl) (Nat.le_of_ble_eq_true rfl) rfl (Or.inl rfl) rfl rfl ?_
  refine pm_R_lo pm_M2 (pc' := 29) rfl rfl rfl ?_
  refine pm_R_stat pm_M2 (pc' := 32) rfl rfl rfl ?_
  refine pm_R_op pm_M2 (pc' := 33) (st' := [.int 0, .ref 1, .ref 72]) rfl rfl rfl ?_
  refine pm_R_iald pm_M2 (pc' := 34) (v := 2) rfl (hh 1 (Nat.le_of_ble_eq_true rfl)) (Nat.le_of_ble_eq_true rfl) rfl rfl rfl ?_
  refine pm_R_newq pm_M2 (pc' := 37) (N := 2) rfl rfl rfl (by decide) rfl (Nat.le_of_ble_eq_true rfl) rfl ?_
  show pm_R _ 2 37 [.ref 72] [.ref 74, .ref 72] _ _
  refine pm_R_put pm_M2 (pc' := 40) (fs' := [.ref 73, .int 0, .int 0, .int (-1), .ref 74, .null, .null, .null, .null]) rfl rfl rfl rfl (Nat.le_of_ble_eq_true rfl) (Nat.le_of_ble_eq_true rfl) (Nat.le_of_ble_eq_true rfl) rfl (Or.inr ⟨pm_N2_ini, rfl, rfl⟩) rfl rfl ?_
  refine pm_R_lo pm_M2 (pc' := 41) rfl rfl rfl ?_
  refine pm_R_stat pm_M2 (pc' := 44) rfl rfl rfl ?_
  refine pm_R_op pm_M2 (pc' := 45) (st' := [.int 1, .ref 1, .ref 72]) rfl rfl rfl ?_
  refine pm_R_iald pm_M2 (pc' := 46) (v := 3) rfl (hh 1 (Nat.le_of_ble_eq_true rfl)) (Nat.le_of_ble_eq_true rfl) rfl rfl rfl ?_
  refine pm_R_newq pm_M2 (pc' := 49) (N := 3) rfl rfl rfl (by decide) rfl (Nat.le_of_ble_eq_true rfl) rfl ?_
  show pm_R _ 2 49 [.ref 72] [.ref 75, .ref 72] _ _
  refine pm_R_put pm_M2 (pc' := 52) (fs' := [.ref 73, .int 0, .int 0, .int (-1), .ref 74, .ref 75, .null, .null, .null]) rfl rfl rfl rfl (Nat.le_of_ble_eq_true rfl) (Nat.le_of_ble_eq_true rfl) (Nat.le_of_ble_eq_true rfl) rfl (Or.inr ⟨pm_N2_ini, rfl, rfl⟩) rfl rfl ?_
  refine pm_R_lo pm_M2 (pc' := 53) rfl rfl rfl ?_
  refine pm_R_stat pm_M2 (pc' := 56) rfl rfl rfl ?_
  refine pm_R_op pm_M2 (pc' := 57) (st' := [.int 2, .ref 1, .ref 72]) rfl rfl rfl ?_
  refine pm_R_iald pm_M2 (pc' := 58) (v := 2) rfl (hh 1 (Nat.le_of_ble_eq_true rfl)) (Nat.le_of_ble_eq_true rfl) rfl rfl rfl ?_
  refine pm_R_newq pm_M2 (pc' := 61) (N := 2) rfl rfl rfl (by decide) rfl (Nat.le_of_ble_eq_true rfl) rfl ?_
  show pm_R _ 2 61 [.ref 72] [.ref 76, .ref 72] _ _
  refine pm_R_put pm_M2 (pc' := 64) (fs' := [.ref 73, .int 0, .int 0, .int (-1), .ref 74, .ref 75, .ref 76, .null, .null]) rfl rfl rfl rfl (Nat.le_of_ble_eq_true rfl) (Nat.le_of_ble_eq_true rfl) (Nat.le_of_ble_eq_true rfl) rfl (Or.inr ⟨pm_N2_ini, rfl, rfl⟩) rfl rfl ?_
  refine pm_R_lo pm_M2 (pc' := 65) rfl rfl rfl ?_
  refine pm_R_stat pm_M2 (pc' := 68) rfl rfl rfl ?_
  refine pm_R_op pm_M2 (pc' := 69) (st' := [.int 3, .ref 1, .ref 72]) rfl rfl rfl ?_
  refine pm_R_iald pm_M2 (pc' := 70) (v := 2) rfl (hh 1 (Nat.le_of_ble_eq_true rfl)) (Nat.le_of_ble_eq_true rfl) rfl rfl rfl ?_
  refine pm_R_newq pm_M2 (pc' := 73) (N := 2) rfl rfl rfl (by decide) rfl (Nat.le_of_ble_eq_true rfl) rfl ?_
  show pm_R _ 2 73 [.ref 72] [.ref 77, .ref 72] _ _
  refine pm_R_put pm_M2 (pc' := 76) (fs' := [.ref 73, .int 0, .int 0, .int (-1), .ref 74, .ref 75, .ref 76, .ref 77, .null]) rfl rfl rfl rfl (Nat.le_of_ble_eq_true rfl) (Nat.le_of_ble_eq_true rfl) (Nat.le_of_ble_eq_true rfl) rfl (Or.inr ⟨pm_N2_ini, rfl, rfl⟩) rfl rfl ?_
  refine pm_R_lo pm_M2 (pc' := 77) rfl rfl rfl ?_
  refine pm_R_op pm_M2 (pc' := 78) (st' := [.int 4, .ref 72]) rfl rfl rfl ?_
  refine pm_R_newa pm_M2 (pc' := 80) (N := 4) rfl rfl (by decide) rfl (Nat.le_of_ble_eq_true rfl) rfl ?_
  show pm_R _ 2 80 [.ref 72] [.ref 78, .ref 72] _ _
  refine pm_R_put pm_M2 (pc' := 83) (fs' := [.ref 73, .int 0, .int 0, .int (-1), .ref 74, .ref 75, .ref 76, .ref 77, .ref 78]) rfl rfl rfl rfl (Nat.le_of_ble_eq_true rfl) (Nat.le_of_ble_eq_true rfl) (Nat.le_of_ble_eq_true rfl) rfl (Or.inr ⟨pm_N2_ini, rfl, rfl⟩) rfl rfl ?_
  refine pm_R_ret pm_M2 (r := none) rfl rfl ?_
  show pm_R _ 57 32 [.ref 16, .int 0] [.ref 72, .int 0, .ref 24] _ _
  refine pm_R_aast pm_M57 (pc' := 33) rfl (hh 24 (Nat.le_of_ble_eq_true rfl)) rfl rfl (Nat.le_of_ble_eq_true rfl) (Nat.le_of_ble_eq_true rfl) (Nat.le_of_ble_eq_true rfl) (Nat.le_of_ble_eq_true rfl) rfl rfl ?_
  refine pm_R_lo pm_M57 (pc' := 34) rfl rfl rfl ?_
  refine pm_R_get pm_M57 (pc' := 37) (v := .ref 24) rfl rfl (hh 16 (Nat.le_of_ble_eq_true rfl)) (Nat.le_of_ble_eq_true rfl) (Nat.le_of_ble_eq_true rfl) rfl rfl ?_
  refine pm_R_lo pm_M57 (pc' := 38) rfl rfl rfl ?_
  refine pm_R_aald pm_M57 (pc' := 39) (v := .ref 72) rfl rfl (Nat.le_of_ble_eq_true rfl) (Nat.le_of_ble_eq_true rfl) (Nat.le_of_ble_eq_true rfl) (Nat.le_of_ble_eq_true rfl) rfl rfl rfl ?_
  refine pm_R_lo pm_M57 (pc' := 40) rfl rfl rfl ?_
  refine pm_R_get pm_M57 (pc' := 43) (v := .ref 17) rfl rfl (hh 16 (Nat.le_of_ble_eq_true rfl)) (Nat.le_of_ble_eq_true rfl) (Nat.le_of_ble_eq_true rfl) rfl rfl ?_
  refine pm_R_cv pm_M57 (pc' := 46) (a := 72) (ra := [.ref 17]) (rest := []) (ls' := [.ref 72, .ref 17]) rfl rfl (Or.inl rfl) pm_M58 rfl rfl (Nat.le_of_ble_eq_true rfl) (Nat.le_of_ble_eq_true rfl) rfl rfl (Nat.le_of_ble_eq_true rfl) rfl rfl ?_
  refine pm_R_lo pm_M58 (pc' := 1) rfl rfl rfl ?_
  refine pm_R_get pm_M58 (pc' := 4) (v := .ref 18) rfl rfl (hh 17 (Nat.le_of_ble_eq_true rfl)) (Nat.le_of_ble_eq_true rfl) (Nat.le_of_ble_eq_true rfl) rfl rfl ?_
  refine pm_R_op pm_M58 (pc' := 5) (st' := [.int 0, .ref 18]) rfl rfl rfl ?_
  refine pm_R_lo pm_M58 (pc' := 6) rfl rfl rfl ?_
  refine pm_R_get pm_M58 (pc' := 9) (v := .ref 73) rfl rfl rfl (Nat.le_of_ble_eq_true rfl) (Nat.le_of_ble_eq_true rfl) rfl rfl ?_
  refine pm_R_op pm_M58 (pc' := 10) (st' := [.int 0, .ref 73, .int 0, .ref 18]) rfl rfl rfl ?_
  refine pm_R_op pm_M58 (pc' := 13) (st' := [.int 600, .int 0, .ref 73, .int 0, .ref 18]) rfl rfl rfl ?_
  refine pm_R_acp pm_M58 (pc' := 16) (S := 0) (D := 0) (N := 600) rfl rfl rfl (hh 18 (Nat.le_of_ble_eq_true rfl)) rfl (Or.inr rfl) (Nat.le_of_ble_eq_true rfl) (Nat.le_of_ble_eq_true rfl) (Nat.le_of_ble_eq_true rfl) (Nat.le_of_ble_eq_true rfl) rfl rfl rfl (by decide) (by decide) (by decide) (Nat.le_of_ble_eq_true rfl) (Nat.le_of_ble_eq_true rfl) (Nat.le_of_ble_eq_true rfl) rfl ?_
  refine pm_R_lo pm_M58 (pc' := 17) rfl rfl rfl ?_
  refine pm_R_lo pm_M58 (pc' := 18) rfl rfl rfl ?_
  refine pm_R_get pm_M58 (pc' := 21) (v := .int 0) rfl rfl (hh 17 (Nat.le_of_ble_eq_true rfl)) (Nat.le_of_ble_eq_true rfl) (Nat.le_of_ble_eq_true rfl) rfl rfl ?_
  refine pm_R_put pm_M58 (pc' := 24) (fs' := [.ref 73, .int 0, .int 0, .int (-1), .ref 74, .ref 75, .ref 76, .ref 77, .ref 78]) rfl rfl rfl rfl (Nat.le_of_ble_eq_true rfl) (Nat.le_of_ble_eq_true rfl) (Nat.le_of_ble_eq_true rfl) rfl (Or.inl rfl) rfl rfl ?_
  refine pm_R_lo pm_M58 (pc' := 25) rfl rfl rfl ?_
  refine pm_R_lo pm_M58 (pc' := 26) rfl rfl rfl ?_
  refine pm_R_get pm_M58 (pc' := 29) (v := .int 0) rfl rfl (hh 17 (Nat.le_of_ble_eq_true rfl)) (Nat.le_of_ble_eq_true rfl) (Nat.le_of_ble_eq_true rfl) rfl rfl ?_
  refine pm_R_put pm_M58 (pc' := 32) (fs' := [.ref 73, .int 0, .int 0, .int (-1), .ref 74, .ref 75, .ref 76, .ref 77, .ref 78]) rfl rfl rfl rfl (Nat.le_of_ble_eq_true rfl) (Nat.le_of_ble_eq_true rfl) (Nat.le_of_ble_eq_true rfl) rfl (Or.inl rfl) rfl rfl ?_
  refine pm_R_lo pm_M58 (pc' := 33) rfl rfl rfl ?_
  refine pm_R_lo pm_M58 (pc' := 34) rfl rfl rfl ?_
  refine pm_R_get pm_M58 (pc' := 37) (v := .int (-1)) rfl rfl (hh 17 (Nat.le_of_ble_eq_true rfl)) (Nat.le_of_ble_eq_true rfl) (Nat.le_of_ble_eq_true rfl) rfl rfl ?_
  refine pm_R_put pm_M58 (pc' := 40) (fs' := [.ref 73, .int 0, .int 0, .int (-1), .ref 74, .ref 75, .ref 76, .ref 77, .ref 78]) rfl rfl rfl rfl (Nat.le_of_ble_eq_true rfl) (Nat.le_of_ble_eq_true rfl) (Nat.le_of_ble_eq_true rfl) rfl (Or.inl rfl) rfl rfl ?_
  refine pm_R_lo pm_M58 (pc' := 41) rfl rfl rfl ?_
  refine pm_R_get pm_M58 (pc' := 44) (v := .ref 23) rfl rfl (hh 17 (Nat.le_of_ble_eq_true rfl)) (Nat.le_of_ble_eq_true rfl) (Nat.le_of_ble_eq_true rfl) rfl rfl ?_
  refine pm_R_op pm_M58 (pc' := 45) (st' := [.int 0, .ref 23]) rfl rfl rfl ?_
  refine pm_R_lo pm_M58 (pc' := 46) rfl rfl rfl ?_
  refine pm_R_get pm_M58 (pc' := 49) (v := .ref 78) rfl rfl rfl (Nat.le_of_ble_eq_true rfl) (Nat.le_of_ble_eq_true rfl) rfl rfl ?_
  refine pm_R_op pm_M58 (pc' := 50) (st' := [.int 0, .ref 78, .int 0, .ref 23]) rfl rfl rfl ?_
  refine pm_R_op pm_M58 (pc' := 51) (st' := [.int 4, .int 0, .ref 78, .int 0, .ref 23]) rfl rfl rfl ?_
  refine pm_R_acp pm_M58 (pc' := 54) (S := 0) (D := 0) (N := 4) rfl rfl rfl (hh 23 (Nat.le_of_ble_eq_true rfl)) rfl (Or.inl rfl) (Nat.le_of_ble_eq_true rfl) (Nat.le_of_ble_eq_true rfl) (Nat.le_of_ble_eq_true rfl) (Nat.le_of_ble_eq_true rfl) rfl rfl rfl (by decide) (by decide) (by decide) (Nat.le_of_ble_eq_true rfl) (Nat.le_of_ble_eq_true rfl) (Nat.le_of_ble_eq_true rfl) rfl ?_
  refine pm_R_lo pm_M58 (pc' := 55) rfl rfl rfl ?_
  refine pm_R_lo pm_M58 (pc' := 56) rfl rfl rfl ?_
  refine pm_R_cv pm_M58 (pc' := 59) (a := 72) (ra := [.ref 17]) (rest := []) (ls' := [.ref 72, .ref 17, pm_no]) rfl rfl (Or.inl rfl) pm_M59 rfl rfl (Nat.le_of_ble_eq_true rfl) (Nat.le_of_ble_eq_true rfl) rfl rfl (Nat.le_of_ble_eq_true rfl) rfl rfl ?_
  refine pm_R_op pm_M59 (pc' := 1) (st' := [.int 0]) rfl rfl rfl ?_
  refine pm_R_lo pm_M59 (pc' := 2) (ls' := [.ref 72, .ref 17, .int 0]) (st' := []) rfl rfl rfl ?_
  refine pm_R_lo pm_M59 (pc' := 3) rfl rfl rfl ?_
  refine pm_R_lo pm_M59 (pc' := 4) rfl rfl rfl ?_
  refine pm_R_get pm_M59 (pc' := 7) (v := .ref 74) rfl rfl rfl (Nat.le_of_ble_eq_true rfl) (Nat.le_of_ble_eq_true rfl) rfl rfl ?_
  refine pm_R_alen pm_M59 (pc' := 8) (v := 2) rfl rfl (Nat.le_of_ble_eq_true rfl) (Nat.le_of_ble_eq_true rfl) (Nat.le_of_ble_eq_true rfl) rfl rfl ?_
  refine pm_R_br pm_M59 (pc' := 11) (st' := []) rfl rfl ?_
  refine pm_R_lo pm_M59 (pc' := 12) rfl rfl rfl ?_
  refine pm_R_get pm_M59 (pc' := 15) (v := .ref 74) rfl rfl rfl (Nat.le_of_ble_eq_true rfl) (Nat.le_of_ble_eq_true rfl) rfl rfl ?_
  refine pm_R_lo pm_M59 (pc' := 16) rfl rfl rfl ?_
  refine pm_R_lo pm_M59 (pc' := 17) rfl rfl rfl ?_
  refine pm_R_get pm_M59 (pc' := 20) (v := .ref 19) rfl rfl (hh 17 (Nat.le_of_ble_eq_true rfl)) (Nat.le_of_ble_eq_true rfl) (Nat.le_of_ble_eq_true rfl) rfl rfl ?_
  refine pm_R_lo pm_M59 (pc' := 21) rfl rfl rfl ?_
  refine pm_R_aald pm_M59 (pc' := 22) (v := .null) rfl (hh 19 (Nat.le_of_ble_eq_true rfl)) (Nat.le_of_ble_eq_true rfl) (Nat.le_of_ble_eq_true rfl) (Nat.le_of_ble_eq_true rfl) (Nat.le_of_ble_eq_true rfl) rfl rfl rfl ?_
  refine pm_R_aastN pm_M59 (pc' := 23) rfl rfl (Nat.le_of_ble_eq_true rfl) (Nat.le_of_ble_eq_true rfl) (Nat.le_of_ble_eq_true rfl) (Nat.le_of_ble_eq_true rfl) rfl rfl ?_
  refine pm_R_lo pm_M59 (pc' := 26) (ls' := [.ref 72, .ref 17, .int 1]) (st' := []) rfl rfl rfl ?_
  refine pm_R_br pm_M59 (pc' := 2) rfl rfl ?_
  refine pm_R_lo pm_M59 (pc' := 3) rfl rfl rfl ?_
  refine pm_R_lo pm_M59 (pc' := 4) rfl rfl rfl ?_
  refine pm_R_get pm_M59 (pc' := 7) (v := .ref 74) rfl rfl rfl (Nat.le_of_ble_eq_true rfl) (Nat.le_of_ble_eq_true rfl) rfl rfl ?_
  refine pm_R_alen pm_M59 (pc' := 8) (v := 2) rfl rfl (Nat.le_of_ble_eq_true rfl) (Nat.le_of_ble_eq_true rfl) (Nat.le_of_ble_eq_true rfl) rfl rfl ?_
  refine pm_R_br pm_M59 (pc' := 11) (st' := []) rfl rfl ?_
  refine pm_R_lo pm_M59 (pc' := 12) rfl rfl rfl ?_
  refine pm_R_get pm_M59 (pc' := 15) (v := .ref 74) rfl rfl rfl (Nat.le_of_ble_eq_true rfl) (Nat.le_of_ble_eq_true rfl) rfl rfl ?_
  refine pm_R_lo pm_M59 (pc' := 16) rfl rfl rfl ?_
  refine pm_R_lo pm_M59 (pc' := 17) rfl rfl rfl ?_
  refine pm_R_get pm_M59 (pc' := 20) (v := .ref 19) rfl rfl (hh 17 (Nat.le_of_ble_eq_true rfl)) (Nat.le_of_ble_eq_true rfl) (Nat.le_of_ble_eq_true rfl) rfl rfl ?_
  refine pm_R_lo pm_M59 (pc' := 21) rfl rfl rfl ?_
  refine pm_R_aald pm_M59 (pc' := 22) (v := .null) rfl (hh 19 (Nat.le_of_ble_eq_true rfl)) (Nat.le_of_ble_eq_true rfl) (Nat.le_of_ble_eq_true rfl) (Nat.le_of_ble_eq_true rfl) (Nat.le_of_ble_eq_true rfl) rfl rfl rfl ?_
  refine pm_R_aastN pm_M59 (pc' := 23) rfl rfl (Nat.le_of_ble_eq_true rfl) (Nat.le_of_ble_eq_true rfl) (Nat.le_of_ble_eq_true rfl) (Nat.le_of_ble_eq_true rfl) rfl rfl ?_
  refine pm_R_lo pm_M59 (pc' := 26) (ls' := [.ref 72, .ref 17, .int 2]) (st' := []) rfl rfl rfl ?_
  refine pm_R_br pm_M59 (pc' := 2) rfl rfl ?_
  refine pm_R_lo pm_M59 (pc' := 3) rfl rfl rfl ?_
  refine pm_R_lo pm_M59 (pc' := 4) rfl rfl rfl ?_
  refine pm_R_get pm_M59 (pc' := 7) (v := .ref 74) rfl rfl rfl (Nat.le_of_ble_eq_true rfl) (Nat.le_of_ble_eq_true rfl) rfl rfl ?_
  refine pm_R_alen pm_M59 (pc' := 8) (v := 2) rfl rfl (Nat.le_of_ble_eq_true rfl) (Nat.le_of_ble_eq_true rfl) (Nat.le_of_ble_eq_true rfl) rfl rfl ?_
  refine pm_R_br pm_M59 (pc' := 29) (st' := []) rfl rfl ?_
  refine pm_R_op pm_M59 (pc' := 30) (st' := [.int 0]) rfl rfl rfl ?_
  refine pm_R_lo pm_M59 (pc' := 31) (ls' := [.ref 72, .ref 17, .int 0]) (st' := []) rfl rfl rfl ?_
  refine pm_R_lo pm_M59 (pc' := 32) rfl rfl rfl ?_
  refine pm_R_lo pm_M59 (pc' := 33) rfl rfl rfl ?_
  refine pm_R_get pm_M59 (pc' := 36) (v := .ref 75) rfl rfl rfl (Nat.le_of_ble_eq_true rfl) (Nat.le_of_ble_eq_true rfl) rfl rfl ?_
  refine pm_R_alen pm_M59 (pc' := 37) (v := 3) rfl rfl (Nat.le_of_ble_eq_true rfl) (Nat.le_of_ble_eq_true rfl) (Nat.le_of_ble_eq_true rfl) rfl rfl ?_
  refine pm_R_br pm_M59 (pc' := 40) (st' := []) rfl rfl ?_
  refine pm_R_lo pm_M59 (pc' := 41) rfl rfl rfl ?_
  refine pm_R_get pm_M59 (pc' := 44) (v := .ref 75) rfl rfl rfl (Nat.le_of_ble_eq_true rfl) (Nat.le_of_ble_eq_true rfl) rfl rfl ?_
  refine pm_R_lo pm_M59 (pc' := 45) rfl rfl rfl ?_
  refine pm_R_lo pm_M59 (pc' := 46) rfl rfl rfl ?_
  refine pm_R_get pm_M59 (pc' := 49) (v := .ref 20) rfl rfl (hh 17 (Nat.le_of_ble_eq_true rfl)) (Nat.le_of_ble_eq_true rfl) (Nat.le_of_ble_eq_true rfl) rfl rfl ?_
  refine pm_R_lo pm_M59 (pc' := 50) rfl rfl rfl ?_
  refine pm_R_aald pm_M59 (pc' := 51) (v := .null) rfl (hh 20 (Nat.le_of_ble_eq_true rfl)) (Nat.le_of_ble_eq_true rfl) (Nat.le_of_ble_eq_true rfl) (Nat.le_of_ble_eq_true rfl) (Nat.le_of_ble_eq_true rfl) rfl rfl rfl ?_
  refine pm_R_aastN pm_M59 (pc' := 52) rfl rfl (Nat.le_of_ble_eq_true rfl) (Nat.le_of_ble_eq_true rfl) (Nat.le_of_ble_eq_true rfl) (Nat.le_of_ble_eq_true rfl) rfl rfl ?_
  refine pm_R_lo pm_M59 (pc' := 55) (ls' := [.ref 72, .ref 17, .int 1]) (st' := []) rfl rfl rfl ?_
  refine pm_R_br pm_M59 (pc' := 31) rfl rfl ?_
  refine pm_R_lo pm_M59 (pc' := 32) rfl rfl rfl ?_
  refine pm_R_lo pm_M59 (pc' := 33) rfl rfl rfl ?_
  refine pm_R_get pm_M59 (pc' := 36) (v := .ref 75) rfl rfl rfl (Nat.le_of_ble_eq_true rfl) (Nat.le_of_ble_eq_true rfl) rfl rfl ?_
  refine pm_R_alen pm_M59 (pc' := 37) (v := 3) rfl rfl (Nat.le_of_ble_eq_true rfl) (Nat.le_of_ble_eq_true rfl) (Nat.le_of_ble_eq_true rfl) rfl rfl ?_
  refine pm_R_br pm_M59 (pc' := 40) (st' := []) rfl rfl ?_
  refine pm_R_lo pm_M59 (pc' := 41) rfl rfl rfl ?_
  refine pm_R_get pm_M59 (pc' := 44) (v := .ref 75) rfl rfl rfl (Nat.le_of_ble_eq_true rfl) (Nat.le_of_ble_eq_true rfl) rfl rfl ?_
  refine pm_R_lo pm_M59 (pc' := 45) rfl rfl rfl ?_
  refine pm_R_lo pm_M59 (pc' := 46) rfl rfl rfl ?_
  refine pm_R_get pm_M59 (pc' := 49) (v := .ref 20) rfl rfl (hh 17 (Nat.le_of_ble_eq_true rfl)) (Nat.le_of_ble_eq_true rfl) (Nat.le_of_ble_eq_true rfl) rfl rfl ?_
  refine pm_R_lo pm_M59 (pc' := 50) rfl rfl rfl ?_
  refine pm_R_aald pm_M59 (pc' := 51) (v := .null) rfl (hh 20 (Nat.le_of_ble_eq_true rfl)) (Nat.le_of_ble_eq_true rfl) (Nat.le_of_ble_eq_true rfl) (Nat.le_of_ble_eq_true rfl) (Nat.le_of_ble_eq_true rfl) rfl rfl rfl ?_
  refine pm_R_aastN pm_M59 (pc' := 52) rfl rfl (Nat.le_of_ble_eq_true rfl) (Nat.le_of_ble_eq_true rfl) (Nat.le_of_ble_eq_true rfl) (Nat.le_of_ble_eq_true rfl) rfl rfl ?_
  refine pm_R_lo pm_M59 (pc' := 55) (ls' := [.ref 72, .ref 17, .int 2]) (st' := []) rfl rfl rfl ?_
  refine pm_R_br pm_M59 (pc' := 31) rfl rfl ?_
  refine pm_R_lo pm_M59 (pc' := 32) rfl rfl rfl ?_
  refine pm_R_lo pm_M59 (pc' := 33) rfl rfl rfl ?_
  refine pm_R_get pm_M59 (pc' := 36) (v := .ref 75) rfl rfl rfl (Nat.le_of_ble_eq_true rfl) (Nat.le_of_ble_eq_true rfl) rfl rfl ?_
  refine pm_R_alen pm_M59 (pc' := 37) (v := 3) rfl rfl (Nat.le_of_ble_eq_true rfl) (Nat.le_of_ble_eq_true rfl) (Nat.le_of_ble_eq_true rfl) rfl rfl ?_
  refine pm_R_br pm_M59 (pc' := 40) (st' := []) rfl rfl ?_
  refine pm_R_lo pm_M59 (pc' := 41) rfl rfl rfl ?_
  refine pm_R_get pm_M59 (pc' := 44) (v := .ref 75) rfl rfl rfl (Nat.le_of_ble_eq_true rfl) (Nat.le_of_ble_eq_true rfl) rfl rfl ?_
  refine pm_R_lo pm_M59 (pc' := 45) rfl rfl rfl ?_
  refine pm_R_lo pm_M59 (pc' := 46) rfl rfl rfl ?_
  refine pm_R_get pm_M59 (pc' := 49) (v := .ref 20) rfl rfl (hh 17 (Nat.le_of_ble_eq_true rfl)) (Nat.le_of_ble_eq_true rfl) (Nat.le_of_ble_eq_true rfl) rfl rfl ?_
  refine pm_R_lo pm_M59 (pc' := 50) rfl rfl rfl ?_
  refine pm_R_aald pm_M59 (pc' := 51) (v := .null) rfl (hh 20 (Nat.le_of_ble_eq_true rfl)) (Nat.le_of_ble_eq_true rfl) (Nat.le_of_ble_eq_true rfl) (Nat.le_of_ble_eq_true rfl) (Nat.le_of_ble_eq_true rfl) rfl rfl rfl ?_
  refine pm_R_aastN pm_M59 (pc' := 52) rfl rfl (Nat.le_of_ble_eq_true rfl) (Nat.le_of_ble_eq_true rfl) (Nat.le_of_ble_eq_true rfl) (Nat.le_of_ble_eq_true rfl) rfl rfl ?_
  refine pm_R_lo pm_M59 (pc' := 55) (ls' := [.ref 72, .ref 17, .int 3]) (st' := []) rfl rfl rfl ?_
  refine pm_R_br pm_M59 (pc' := 31) rfl rfl ?_
  refine pm_R_lo pm_M59 (pc' := 32) rfl rfl rfl ?_
  refine pm_R_lo pm_M59 (pc' := 33) rfl rfl rfl ?_
  refine pm_R_get pm_M59 (pc' := 36) (v := .ref 75) rfl rfl rfl (Nat.le_of_ble_eq_true rfl) (Nat.le_of_ble_eq_true rfl) rfl rfl ?_
  refine pm_R_alen pm_M59 (pc' := 37) (v := 3) rfl rfl (Nat.le_of_ble_eq_true rfl) (Nat.le_of_ble_eq_true rfl) (Nat.le_of_ble_eq_true rfl) rfl rfl ?_
  refine pm_R_br pm_M59 (pc' := 58) (st' := []) rfl rfl ?_
  refine pm_R_op pm_M59 (pc' := 59) (st' := [.int 0]) rfl rfl rfl ?_
  refine pm_R_lo pm_M59 (pc' := 60) (ls' := [.ref 72, .ref 17, .int 0]) (st' := []) rfl rfl rfl ?_
  refine pm_R_lo pm_M59 (pc' := 61) rfl rfl rfl ?_
  refine pm_R_lo pm_M59 (pc' := 62) rfl rfl rfl ?_
  refine pm_R_get pm_M59 (pc' := 65) (v := .ref 76) rfl rfl rfl (Nat.le_of_ble_eq_true rfl) (Nat.le_of_ble_eq_true rfl) rfl rfl ?_
  refine pm_R_alen pm_M59 (pc' := 66) (v := 2) rfl rfl (Nat.le_of_ble_eq_true rfl) (Nat.le_of_ble_eq_true rfl) (Nat.le_of_ble_eq_true rfl) rfl rfl ?_
  refine pm_R_br pm_M59 (pc' := 69) (st' := []) rfl rfl ?_
  refine pm_R_lo pm_M59 (pc' := 70) rfl rfl rfl ?_
  refine pm_R_get pm_M59 (pc' := 73) (v := .ref 76) rfl rfl rfl (Nat.le_of_ble_eq_true rfl) (Nat.le_of_ble_eq_true rfl) rfl rfl ?_
  refine pm_R_lo pm_M59 (pc' := 74) rfl rfl rfl ?_
  refine pm_R_lo pm_M59 (pc' := 75) rfl rfl rfl ?_
  refine pm_R_get pm_M59 (pc' := 78) (v := .ref 21) rfl rfl (hh 17 (Nat.le_of_ble_eq_true rfl)) (Nat.le_of_ble_eq_true rfl) (Nat.le_of_ble_eq_true rfl) rfl rfl ?_
  refine pm_R_lo pm_M59 (pc' := 79) rfl rfl rfl ?_
  refine pm_R_aald pm_M59 (pc' := 80) (v := .null) rfl (hh 21 (Nat.le_of_ble_eq_true rfl)) (Nat.le_of_ble_eq_true rfl) (Nat.le_of_ble_eq_true rfl) (Nat.le_of_ble_eq_true rfl) (Nat.le_of_ble_eq_true rfl) rfl rfl rfl ?_
  refine pm_R_aastN pm_M59 (pc' := 81) rfl rfl (Nat.le_of_ble_eq_true rfl) (Nat.le_of_ble_eq_true rfl) (Nat.le_of_ble_eq_true rfl) (Nat.le_of_ble_eq_true rfl) rfl rfl ?_
  refine pm_R_lo pm_M59 (pc' := 84) (ls' := [.ref 72, .ref 17, .int 1]) (st' := []) rfl rfl rfl ?_
  refine pm_R_br pm_M59 (pc' := 60) rfl rfl ?_
  refine pm_R_lo pm_M59 (pc' := 61) rfl rfl rfl ?_
  refine pm_R_lo pm_M59 (pc' := 62) rfl rfl rfl ?_
  refine pm_R_get pm_M59 (pc' := 65) (v := .ref 76) rfl rfl rfl (Nat.le_of_ble_eq_true rfl) (Nat.le_of_ble_eq_true rfl) rfl rfl ?_
  refine pm_R_alen pm_M59 (pc' := 66) (v := 2) rfl rfl (Nat.le_of_ble_eq_true rfl) (Nat.le_of_ble_eq_true rfl) (Nat.le_of_ble_eq_true rfl) rfl rfl ?_
  refine pm_R_br pm_M59 (pc' := 69) (st' := []) rfl rfl ?_
  refine pm_R_lo pm_M59 (pc' := 70) rfl rfl rfl ?_
  refine pm_R_get pm_M59 (pc' := 73) (v := .ref 76) rfl rfl rfl (Nat.le_of_ble_eq_true rfl) (Nat.le_of_ble_eq_true rfl) rfl rfl ?_
  refine pm_R_lo pm_M59 (pc' := 74) rfl rfl rfl ?_
  refine pm_R_lo pm_M59 (pc' := 75) rfl rfl rfl ?_
  refine pm_R_get pm_M59 (pc' := 78) (v := .ref 21) rfl rfl (hh 17 (Nat.le_of_ble_eq_true rfl)) (Nat.le_of_ble_eq_true rfl) (Nat.le_of_ble_eq_true rfl) rfl rfl ?_
  refine pm_R_lo pm_M59 (pc' := 79) rfl rfl rfl ?_
  refine pm_R_aald pm_M59 (pc' := 80) (v := .null) rfl (hh 21 (Nat.le_of_ble_eq_true rfl)) (Nat.le_of_ble_eq_true rfl) (Nat.le_of_ble_eq_true rfl) (Nat.le_of_ble_eq_true rfl) (Nat.le_of_ble_eq_true rfl) rfl rfl rfl ?_
  refine pm_R_aastN pm_M59 (pc' := 81) rfl rfl (Nat.le_of_ble_eq_true rfl) (Nat.le_of_ble_eq_true rfl) (Nat.le_of_ble_eq_true rfl) (Nat.le_of_ble_eq_true rfl) rfl rfl ?_
  refine pm_R_lo pm_M59 (pc' := 84) (ls' := [.ref 72, .ref 17, .int 2]) (st' := []) rfl rfl rfl ?_
  refine pm_R_br pm_M59 (pc' := 60) rfl rfl ?_
  refine pm_R_lo pm_M59 (pc' := 61) rfl rfl rfl ?_
  refine pm_R_lo pm_M59 (pc' := 62) rfl rfl rfl ?_
  refine pm_R_get pm_M59 (pc' := 65) (v := .ref 76) rfl rfl rfl (Nat.le_of_ble_eq_true rfl) (Nat.le_of_ble_eq_true rfl) rfl rfl ?_
  refine pm_R_alen pm_M59 (pc' := 66) (v := 2) rfl rfl (Nat.le_of_ble_eq_true rfl) (Nat.le_of_ble_eq_true rfl) (Nat.le_of_ble_eq_true rfl) rfl rfl ?_
  refine pm_R_br pm_M59 (pc' := 87) (st' := []) rfl rfl ?_
  refine pm_R_op pm_M59 (pc' := 88) (st' := [.int 0]) rfl rfl rfl ?_
  refine pm_R_lo pm_M59 (pc' := 89) (ls' := [.ref 72, .ref 17, .int 0]) (st' := []) rfl rfl rfl ?_
  refine pm_R_lo pm_M59 (pc' := 90) rfl rfl rfl ?_
  refine pm_R_lo pm_M59 (pc' := 91) rfl rfl rfl ?_
  refine pm_R_get pm_M59 (pc' := 94) (v := .ref 77) rfl rfl rfl (Nat.le_of_ble_eq_true rfl) (Nat.le_of_ble_eq_true rfl) rfl rfl ?_
  refine pm_R_alen pm_M59 (pc' := 95) (v := 2) rfl rfl (Nat.le_of_ble_eq_true rfl) (Nat.le_of_ble_eq_true rfl) (Nat.le_of_ble_eq_true rfl) rfl rfl ?_
  refine pm_R_br pm_M59 (pc' := 98) (st' := []) rfl rfl ?_
  refine pm_R_lo pm_M59 (pc' := 99) rfl rfl rfl ?_
  refine pm_R_get pm_M59 (pc' := 102) (v := .ref 77) rfl rfl rfl (Nat.le_of_ble_eq_true rfl) (Nat.le_of_ble_eq_true rfl) rfl rfl ?_
  refine pm_R_lo pm_M59 (pc' := 103) (pm_q59_1 (Nat.le_of_ble_eq_true rfl)) rfl rfl ?_
  refine pm_R_lo pm_M59 (pc' := 104) (pm_q59_1 (Nat.le_of_ble_eq_true rfl)) rfl rfl ?_
  refine pm_R_get pm_M59 (pc' := 107) (v := .ref 22) (pm_q59_1 (Nat.le_of_ble_eq_true rfl)) rfl (hh 17 (Nat.le_of_ble_eq_true rfl)) (Nat.le_of_ble_eq_true rfl) (Nat.le_of_ble_eq_true rfl) rfl rfl ?_
  refine pm_R_lo pm_M59 (pc' := 108) (pm_q59_1 (Nat.le_of_ble_eq_true rfl)) rfl rfl ?_
  refine pm_R_aald pm_M59 (pc' := 109) (v := .null) (pm_q59_1 (Nat.le_of_ble_eq_true rfl)) (hh 22 (Nat.le_of_ble_eq_true rfl)) (Nat.le_of_ble_eq_true rfl) (Nat.le_of_ble_eq_true rfl) (Nat.le_of_ble_eq_true rfl) (Nat.le_of_ble_eq_true rfl) rfl rfl rfl ?_
  refine pm_R_aastN pm_M59 (pc' := 110) (pm_q59_1 (Nat.le_of_ble_eq_true rfl)) rfl (Nat.le_of_ble_eq_true rfl) (Nat.le_of_ble_eq_true rfl) (Nat.le_of_ble_eq_true rfl) (Nat.le_of_ble_eq_true rfl) rfl rfl ?_
  refine pm_R_lo pm_M59 (pc' := 113) (ls' := [.ref 72, .ref 17, .int 1]) (st' := []) (pm_q59_1 (Nat.le_of_ble_eq_true rfl)) rfl rfl ?_
  refine pm_R_br pm_M59 (pc' := 89) (pm_q59_1 (Nat.le_of_ble_eq_true rfl)) rfl ?_
  refine pm_R_lo pm_M59 (pc' := 90) rfl rfl rfl ?_
  refine pm_R_lo pm_M59 (pc' := 91) rfl rfl rfl ?_
  refine pm_R_get pm_M59 (pc' := 94) (v := .ref 77) rfl rfl rfl (Nat.le_of_ble_eq_true rfl) (Nat.le_of_ble_eq_true rfl) rfl rfl ?_
  refine pm_R_alen pm_M59 (pc' := 95) (v := 2) rfl rfl (Nat.le_of_ble_eq_true rfl) (Nat.le_of_ble_eq_true rfl) (Nat.le_of_ble_eq_true rfl) rfl rfl ?_
  refine pm_R_br pm_M59 (pc' := 98) (st' := []) rfl rfl ?_
  refine pm_R_lo pm_M59 (pc' := 99) rfl rfl rfl ?_
  refine pm_R_get pm_M59 (pc' := 102) (v := .ref 77) rfl rfl rfl (Nat.le_of_ble_eq_true rfl) (Nat.le_of_ble_eq_true rfl) rfl rfl ?_
  refine pm_R_lo pm_M59 (pc' := 103) (pm_q59_1 (Nat.le_of_ble_eq_true rfl)) rfl rfl ?_
  refine pm_R_lo pm_M59 (pc' := 104) (pm_q59_1 (Nat.le_of_ble_eq_true rfl)) rfl rfl ?_
  refine pm_R_get pm_M59 (pc' := 107) (v := .ref 22) (pm_q59_1 (Nat.le_of_ble_eq_true rfl)) rfl (hh 17 (Nat.le_of_ble_eq_true rfl)) (Nat.le_of_ble_eq_true rfl) (Nat.le_of_ble_eq_true rfl) rfl rfl ?_
  refine pm_R_lo pm_M59 (pc' := 108) (pm_q59_1 (Nat.le_of_ble_eq_true rfl)) rfl rfl ?_
  refine pm_R_aald pm_M59 (pc' := 109) (v := .null) (pm_q59_1 (Nat.le_of_ble_eq_true rfl)) (hh 22 (Nat.le_of_ble_eq_true rfl)) (Nat.le_of_ble_eq_true rfl) (Nat.le_of_ble_eq_true rfl) (Nat.le_of_ble_eq_true rfl) (Nat.le_of_ble_eq_true rfl) rfl rfl rfl ?_
  refine pm_R_aastN pm_M59 (pc' := 110) (pm_q59_1 (Nat.le_of_ble_eq_true rfl)) rfl (Nat.le_of_ble_eq_true rfl) (Nat.le_of_ble_eq_true rfl) (Nat.le_of_ble_eq_true rfl) (Nat.le_of_ble_eq_true rfl) rfl rfl ?_
  refine pm_R_lo pm_M59 (pc' := 113) (ls' := [.ref 72, .ref 17, .int 2]) (st' := []) (pm_q59_1 (Nat.le_of_ble_eq_true rfl)) rfl rfl ?_
  refine pm_R_br pm_M59 (pc' := 89) (pm_q59_1 (Nat.le_of_ble_eq_true rfl)) rfl ?_
  refine pm_R_lo pm_M59 (pc' := 90) rfl rfl rfl ?_
  refine pm_R_lo pm_M59 (pc' := 91) rfl rfl rfl ?_
  refine pm_R_get pm_M59 (pc' := 94) (v := .ref 77) rfl rfl rfl (Nat.le_of_ble_eq_true rfl) (Nat.le_of_ble_eq_true rfl) rfl rfl ?_
  refine pm_R_alen pm_M59 (pc' := 95) (v := 2) rfl rfl (Nat.le_of_ble_eq_true rfl) (Nat.le_of_ble_eq_true rfl) (Nat.le_of_ble_eq_true rfl) rfl rfl ?_
  refine pm_R_br pm_M59 (pc' := 116) (st' := []) rfl rfl ?_
  refine pm_R_ret pm_M59 (r := none) (pm_q59_1 (Nat.le_of_ble_eq_true rfl)) rfl ?_
  show pm_R _ 58 59 [.ref 72, .ref 17] [] _ _
  refine pm_R_ret pm_M58 (r := none) rfl rfl ?_
  show pm_R _ 57 46 [.ref 16, .int 0] [] _ _
  refine pm_R_op pm_M57 (pc' := 47) (st' := [.int 1]) rfl rfl rfl ?_
  refine pm_R_ret pm_M57 (r := some (.int 1)) rfl rfl ?_
  show pm_R _ 0 2084 [.ref 0, .ref 16, .ref 41, .int 0] [.int 1] _ _
  refine pm_R_lo pm_M0 (pc' := 2085) (pm_q0_27 (Nat.le_of_ble_eq_true rfl)) rfl rfl ?_
  refine pm_R_lo pm_M0 (pc' := 2086) (pm_q0_27 (Nat.le_of_ble_eq_true rfl)) rfl rfl ?_
  refine pm_R_lo pm_M0 (pc' := 2087) (pm_q0_27 (Nat.le_of_ble_eq_true rfl)) rfl rfl ?_
  refine pm_R_op pm_M0 (pc' := 2088) (st' := [.int 1, .int 0, .ref 0, .ref 41, .int 1]) (pm_q0_27 (Nat.le_of_ble_eq_true rfl)) rfl rfl ?_
  refine pm_R_op pm_M0 (pc' := 2089) (st' := [.int 1, .ref 0, .ref 41, .int 1]) (pm_q0_27 (Nat.le_of_ble_eq_true rfl)) rfl rfl ?_
  refine pm_R_iald pm_M0 (pc' := 2090) (v := 0) (pm_q0_27 (Nat.le_of_ble_eq_true rfl)) (hh 0 (Nat.le_of_ble_eq_true rfl)) (Nat.le_of_ble_eq_true rfl) rfl hx1 rfl ?_
  refine pm_R_cv pm_M0 (pc' := 2093) (a := 41) (ra := [.int 0]) (rest := [.int 1]) (ls' := [.ref 41, .int 0]) (pm_q0_27 (Nat.le_of_ble_eq_true rfl)) rfl (Or.inl rfl) pm_M295 (hh 41 (Nat.le_of_ble_eq_true rfl)) rfl (Nat.le_of_ble_eq_true rfl) (Nat.le_of_ble_eq_true rfl) rfl rfl (Nat.le_of_ble_eq_true rfl) rfl rfl ?_
  refine pm_R_lo pm_M295 (pc' := 1) rfl rfl rfl ?_
  refine pm_R_op pm_M295 (pc' := 2) (st' := [.int 0, .ref 41]) rfl rfl rfl ?_
  refine pm_R_put pm_M295 (pc' := 5) (fs' := [.int 0, .ref 42, .ref 43, .ref 44, .ref 45, .ref 46, .ref 47, .ref 48, .ref 49, .ref 50, .int 0, .int 0, .int 0, .int 0, .int 0, .long 0, .int 0, .int 0, .int 0, .ref 51, .ref 52, .int 0, .int 0, .int 0, .int 0, .ref 53, .int 0, .int 0, .ref 54, .ref 55, .ref 56, .int 0, .ref 57, .ref 58, .ref 59, .ref 60, .ref 61, .ref 62, .ref 63, .ref 64, .ref 65, .ref 66, .int 0, .int 0, .int 0, .ref 67, .ref 68, .int 0, .ref 69, .int 0, .int 0, .ref 70, .ref 71]) rfl rfl rfl (hh 41 (Nat.le_of_ble_eq_true rfl)) (Nat.le_of_ble_eq_true rfl) (Nat.le_of_ble_eq_true rfl) (Nat.le_of_ble_eq_true rfl) rfl (Or.inl rfl) rfl rfl ?_
  refine pm_R_lo pm_M295 (pc' := 6) rfl rfl rfl ?_
  refine pm_R_op pm_M295 (pc' := 7) (st' := [.int 0, .int 0]) rfl rfl rfl ?_
  refine pm_R_op pm_M295 (pc' := 8) (st' := [.int 2, .int 0, .int 0]) rfl rfl rfl ?_
  refine pm_R_cs pm_M295 (pc' := 11) (ra := [.int 2, .int 0, .int 0]) (rest := []) (ls' := [.int 0, .int 0, .int 2]) rfl rfl (Or.inl rfl) pm_M174 rfl rfl (Nat.le_of_ble_eq_true rfl) rfl rfl ?_
  refine pm_R_lo pm_M174 (pc' := 1) rfl rfl rfl ?_
  refine pm_R_lo pm_M174 (pc' := 2) rfl rfl rfl ?_
  refine pm_R_br pm_M174 (pc' := 5) (st' := []) rfl rfl ?_
  refine pm_R_lo pm_M174 (pc' := 6) rfl rfl rfl ?_
  refine pm_R_lo pm_M174 (pc' := 7) rfl rfl rfl ?_
  refine pm_R_br pm_M174 (pc' := 10) (st' := []) rfl rfl ?_
  refine pm_R_op pm_M174 (pc' := 11) (st' := [.int 1]) rfl rfl rfl ?_
  refine pm_R_br pm_M174 (pc' := 15) rfl rfl ?_
  refine pm_R_ret pm_M174 (r := some (.int 1)) rfl rfl ?_
  show pm_R _ 295 11 [.ref 41, .int 0] [.int 1] _ _
  refine pm_R_br pm_M295 (pc' := 16) (st' := []) rfl rfl ?_
  refine pm_R_lo pm_M295 (pc' := 17) rfl rfl rfl ?_
  refine pm_R_op pm_M295 (pc' := 18) (st' := [.int 0, .ref 41]) rfl rfl rfl ?_
  refine pm_R_lo pm_M295 (pc' := 19) rfl rfl rfl ?_
  refine pm_R_op pm_M295 (pc' := 20) (st' := [.int 1, .int 0, .int 0, .ref 41]) rfl rfl rfl ?_
  refine pm_R_op pm_M295 (pc' := 21) (st' := [.int 1, .int 0, .ref 41]) rfl rfl rfl ?_
  refine pm_R_cv pm_M295 (pc' := 24) (a := 41) (ra := [.int 1, .int 0]) (rest := []) (ls' := [.ref 41, .int 0, .int 1, pm_no]) rfl rfl (Or.inl rfl) pm_M296 rfl rfl (Nat.le_of_ble_eq_true rfl) (Nat.le_of_ble_eq_true rfl) rfl rfl (Nat.le_of_ble_eq_true rfl) rfl rfl ?_
  refine pm_R_op pm_M296 (pc' := 1) (st' := [.int 0]) rfl rfl rfl ?_
  refine pm_R_lo pm_M296 (pc' := 2) (ls' := [.ref 41, .int 0, .int 1, .int 0]) (st' := []) rfl rfl rfl ?_
  refine pm_R_heq (pm_set_self (a := 42) (c := .inl (2, 2400, .inl (fun _ => 0))) (hh 42 (Nat.le_of_ble_eq_true rfl))).symm ?_
  refine p1_L4 (to := 1) rfl rfl (Nat.le_of_ble_eq_true rfl) (by decide) (fun g_1 => ?_) 600 0 _ rfl
  refine pm_R_lo pm_M296 (pc' := 40) rfl rfl rfl ?_
  refine pm_R_get pm_M296 (pc' := 43) (v := .ref 43) rfl rfl rfl (Nat.le_of_ble_eq_true rfl) (Nat.le_of_ble_eq_true rfl) rfl rfl ?_
  refine pm_R_op pm_M296 (pc' := 44) (st' := [.int 1, .ref 43]) rfl rfl rfl ?_
  refine pm_R_lo pm_M296 (pc' := 45) rfl rfl rfl ?_
  refine pm_R_lo pm_M296 (pc' := 46) rfl rfl rfl ?_
  refine pm_R_cs pm_M296 (pc' := 49) (ra := [.int 1, .int 0, .int 1, .ref 43]) (rest := []) (ls' := [.ref 43, .int 1, .int 0, .int 1, pm_no]) rfl rfl (Or.inl rfl) pm_M297 rfl rfl (Nat.le_of_ble_eq_true rfl) rfl rfl ?_
  refine pm_R_op pm_M297 (pc' := 1) (st' := [.int 0]) rfl rfl rfl ?_
  refine pm_R_lo pm_M297 (pc' := 3) (ls' := [.ref 43, .int 1, .int 0, .int 1, .int 0]) (st' := []) rfl rfl rfl ?_
  refine pm_R_heq (pm_set_self (a := 43) (c := .inl (0, 4, .inl (fun _ => 0))) (hh 43 (Nat.le_of_ble_eq_true rfl))).symm ?_
  refine p1_L3 (a := 43) (w := 1) (to := 1) (N := 4) (Nat.le_of_ble_eq_true rfl) (Nat.le_of_ble_eq_true rfl) (by decide) (by decide) (fun g_2 => ?_) 1 0 _ rfl
  show pm_R _ 296 49 [.ref 41, .int 0, .int 1, .int 600] [] _ _
  refine pm_R_lo pm_M296 (pc' := 50) rfl rfl rfl ?_
  refine pm_R_get pm_M296 (pc' := 53) (v := .ref 44) rfl rfl rfl (Nat.le_of_ble_eq_true rfl) (Nat.le_of_ble_eq_true rfl) rfl rfl ?_
  refine pm_R_op pm_M296 (pc' := 54) (st' := [.int 1, .ref 44]) rfl rfl rfl ?_
  refine pm_R_lo pm_M296 (pc' := 55) rfl rfl rfl ?_
  refine pm_R_lo pm_M296 (pc' := 56) rfl rfl rfl ?_
  refine pm_R_cs pm_M296 (pc' := 59) (ra := [.int 1, .int 0, .int 1, .ref 44]) (rest := []) (ls' := [.ref 44, .int 1, .int 0, .int 1, pm_no]) rfl rfl (Or.inl rfl) pm_M297 rfl rfl (Nat.le_of_ble_eq_true rfl) rfl rfl ?_
  refine pm_R_op pm_M297 (pc' := 1) (st' := [.int 0]) rfl rfl rfl ?_
  refine pm_R_lo pm_M297 (pc' := 3) (ls' := [.ref 44, .int 1, .int 0, .int 1, .int 0]) (st' := []) rfl rfl rfl ?_
  refine pm_R_heq (pm_set_self (a := 44) (c := .inl (0, 4, .inl (fun _ => 0))) (hh 44 (Nat.le_of_ble_eq_true rfl))).symm ?_
  refine p1_L3 (a := 44) (w := 1) (to := 1) (N := 4) (Nat.le_of_ble_eq_true rfl) (Nat.le_of_ble_eq_true rfl) (by decide) (by decide) (fun g_3 => ?_) 1 0 _ rfl
  show pm_R _ 296 59 [.ref 41, .int 0, .int 1, .int 600] [] _ _
  refine pm_R_lo pm_M296 (pc' := 60) rfl rfl rfl ?_
  refine pm_R_get pm_M296 (pc' := 63) (v := .ref 45) rfl rfl rfl (Nat.le_of_ble_eq_true rfl) (Nat.le_of_ble_eq_true rfl) rfl rfl ?_
  refine pm_R_op pm_M296 (pc' := 64) (st' := [.int 1, .ref 45]) rfl rfl rfl ?_
  refine pm_R_lo pm_M296 (pc' := 65) rfl rfl rfl ?_
  refine pm_R_lo pm_M296 (pc' := 66) rfl rfl rfl ?_
  refine pm_R_cs pm_M296 (pc' := 69) (ra := [.int 1, .int 0, .int 1, .ref 45]) (rest := []) (ls' := [.ref 45, .int 1, .int 0, .int 1, pm_no]) rfl rfl (Or.inl rfl) pm_M297 rfl rfl (Nat.le_of_ble_eq_true rfl) rfl rfl ?_
  refine pm_R_op pm_M297 (pc' := 1) (st' := [.int 0]) rfl rfl rfl ?_
  refine pm_R_lo pm_M297 (pc' := 3) (ls' := [.ref 45, .int 1, .int 0, .int 1, .int 0]) (st' := []) rfl rfl rfl ?_
  refine pm_R_heq (pm_set_self (a := 45) (c := .inl (0, 4, .inl (upd (fun _ => 0) 0 (-1)))) (hh 45 (Nat.le_of_ble_eq_true rfl))).symm ?_
  refine p1_L3 (a := 45) (w := 1) (to := 1) (N := 4) (Nat.le_of_ble_eq_true rfl) (Nat.le_of_ble_eq_true rfl) (by decide) (by decide) (fun g_4 => ?_) 1 0 _ rfl
  show pm_R _ 296 69 [.ref 41, .int 0, .int 1, .int 600] [] _ _
  refine pm_R_lo pm_M296 (pc' := 70) rfl rfl rfl ?_
  refine pm_R_get pm_M296 (pc' := 73) (v := .ref 46) rfl rfl rfl (Nat.le_of_ble_eq_true rfl) (Nat.le_of_ble_eq_true rfl) rfl rfl ?_
  refine pm_R_op pm_M296 (pc' := 74) (st' := [.int 4, .ref 46]) rfl rfl rfl ?_
  refine pm_R_lo pm_M296 (pc' := 75) rfl rfl rfl ?_
  refine pm_R_lo pm_M296 (pc' := 76) rfl rfl rfl ?_
  refine pm_R_cs pm_M296 (pc' := 79) (ra := [.int 1, .int 0, .int 4, .ref 46]) (rest := []) (ls' := [.ref 46, .int 4, .int 0, .int 1, pm_no]) rfl rfl (Or.inl rfl) pm_M297 rfl rfl (Nat.le_of_ble_eq_true rfl) rfl rfl ?_
  refine pm_R_op pm_M297 (pc' := 1) (st' := [.int 0]) rfl rfl rfl ?_
  refine pm_R_lo pm_M297 (pc' := 3) (ls' := [.ref 46, .int 4, .int 0, .int 1, .int 0]) (st' := []) rfl rfl rfl ?_
  refine pm_R_heq (pm_set_self (a := 46) (c := .inl (0, 16, .inl (fun _ => 0))) (hh 46 (Nat.le_of_ble_eq_true rfl))).symm ?_
  refine p1_L3 (a := 46) (w := 4) (to := 1) (N := 16) (Nat.le_of_ble_eq_true rfl) (Nat.le_of_ble_eq_true rfl) (by decide) (by decide) (fun g_5 => ?_) 4 0 _ rfl
  show pm_R _ 296 79 [.ref 41, .int 0, .int 1, .int 600] [] _ _
  refine pm_R_lo pm_M296 (pc' := 80) rfl rfl rfl ?_
  refine pm_R_get pm_M296 (pc' := 83) (v := .ref 47) rfl rfl rfl (Nat.le_of_ble_eq_true rfl) (Nat.le_of_ble_eq_true rfl) rfl rfl ?_
  refine pm_R_op pm_M296 (pc' := 86) (st' := [.int 200, .ref 47]) rfl rfl rfl ?_
  refine pm_R_lo pm_M296 (pc' := 87) rfl rfl rfl ?_
  refine pm_R_lo pm_M296 (pc' := 88) rfl rfl rfl ?_
  refine pm_R_cs pm_M296 (pc' := 91) (ra := [.int 1, .int 0, .int 200, .ref 47]) (rest := []) (ls' := [.ref 47, .int 200, .int 0, .int 1, pm_no]) rfl rfl (Or.inl rfl) pm_M297 rfl rfl (Nat.le_of_ble_eq_true rfl) rfl rfl ?_
  refine pm_R_op pm_M297 (pc' := 1) (st' := [.int 0]) rfl rfl rfl ?_
  refine pm_R_lo pm_M297 (pc' := 3) (ls' := [.ref 47, .int 200, .int 0, .int 1, .int 0]) (st' := []) rfl rfl rfl ?_
  refine pm_R_heq (pm_set_self (a := 47) (c := .inl (0, 800, .inl (fun _ => 0))) (hh 47 (Nat.le_of_ble_eq_true rfl))).symm ?_
  refine p1_L3 (a := 47) (w := 200) (to := 1) (N := 800) (Nat.le_of_ble_eq_true rfl) (Nat.le_of_ble_eq_true rfl) (by decide) (by decide) (fun g_6 => ?_) 200 0 _ rfl
  show pm_R _ 296 91 [.ref 41, .int 0, .int 1, .int 600] [] _ _
  refine pm_R_lo pm_M296 (pc' := 92) rfl rfl rfl ?_
  refine pm_R_get pm_M296 (pc' := 95) (v := .ref 48) rfl rfl rfl (Nat.le_of_ble_eq_true rfl) (Nat.le_of_ble_eq_true rfl) rfl rfl ?_
  refine pm_R_op pm_M296 (pc' := 97) (st' := [.int 39, .ref 48]) rfl rfl rfl ?_
  refine pm_R_lo pm_M296 (pc' := 98) rfl rfl rfl ?_
  refine pm_R_lo pm_M296 (pc' := 99) rfl rfl rfl ?_
  refine pm_R_cs pm_M296 (pc' := 102) (ra := [.int 1, .int 0, .int 39, .ref 48]) (rest := []) (ls' := [.ref 48, .int 39, .int 0, .int 1, pm_no]) rfl rfl (Or.inl rfl) pm_M297 rfl rfl (Nat.le_of_ble_eq_true rfl) rfl rfl ?_
  refine pm_R_op pm_M297 (pc' := 1) (st' := [.int 0]) rfl rfl rfl ?_
  refine pm_R_lo pm_M297 (pc' := 3) (ls' := [.ref 48, .int 39, .int 0, .int 1, .int 0]) (st' := []) rfl rfl rfl ?_
  refine pm_R_heq (pm_set_self (a := 48) (c := .inl (0, 156, .inl (fun _ => 0))) (hh 48 (Nat.le_of_ble_eq_true rfl))).symm ?_
  refine p1_L3 (a := 48) (w := 39) (to := 1) (N := 156) (Nat.le_of_ble_eq_true rfl) (Nat.le_of_ble_eq_true rfl) (by decide) (by decide) (fun g_7 => ?_) 39 0 _ rfl
  show pm_R _ 296 102 [.ref 41, .int 0, .int 1, .int 600] [] _ _
  refine pm_R_lo pm_M296 (pc' := 103) rfl rfl rfl ?_
  refine pm_R_get pm_M296 (pc' := 106) (v := .ref 49) (pm_q296_1 (Nat.le_of_ble_eq_true rfl)) rfl rfl (Nat.le_of_ble_eq_true rfl) (Nat.le_of_ble_eq_true rfl) rfl rfl ?_
  refine pm_R_op pm_M296 (pc' := 109) (st' := [.int 304, .ref 49]) (pm_q296_1 (Nat.le_of_ble_eq_true rfl)) rfl rfl ?_
  refine pm_R_lo pm_M296 (pc' := 110) (pm_q296_1 (Nat.le_of_ble_eq_true rfl)) rfl rfl ?_
  refine pm_R_lo pm_M296 (pc' := 111) (pm_q296_1 (Nat.le_of_ble_eq_true rfl)) rfl rfl ?_
  refine pm_R_cs pm_M296 (pc' := 114) (ra := [.int 1, .int 0, .int 304, .ref 49]) (rest := []) (ls' := [.ref 49, .int 304, .int 0, .int 1, pm_no]) (pm_q296_1 (Nat.le_of_ble_eq_true rfl)) rfl (Or.inl rfl) pm_M297 rfl rfl (Nat.le_of_ble_eq_true rfl) rfl rfl ?_
  refine pm_R_op pm_M297 (pc' := 1) (st' := [.int 0]) rfl rfl rfl ?_
  refine pm_R_lo pm_M297 (pc' := 3) (ls' := [.ref 49, .int 304, .int 0, .int 1, .int 0]) (st' := []) rfl rfl rfl ?_
  refine pm_R_heq (pm_set_self (a := 49) (c := .inl (0, 1216, .inl (fun _ => 0))) (hh 49 (Nat.le_of_ble_eq_true rfl))).symm ?_
  refine p1_L3 (a := 49) (w := 304) (to := 1) (N := 1216) (Nat.le_of_ble_eq_true rfl) (Nat.le_of_ble_eq_true rfl) (by decide) (by decide) (fun g_8 => ?_) 304 0 _ rfl
  show pm_R _ 296 114 [.ref 41, .int 0, .int 1, .int 600] [] _ _
  refine pm_R_lo pm_M296 (pc' := 115) (pm_q296_1 (Nat.le_of_ble_eq_true rfl)) rfl rfl ?_
  refine pm_R_get pm_M296 (pc' := 118) (v := .ref 50) (pm_q296_1 (Nat.le_of_ble_eq_true rfl)) rfl rfl (Nat.le_of_ble_eq_true rfl) (Nat.le_of_ble_eq_true rfl) rfl rfl ?_
  refine pm_R_op pm_M296 (pc' := 120) (st' := [.int 50, .ref 50]) (pm_q296_1 (Nat.le_of_ble_eq_true rfl)) rfl rfl ?_
  refine pm_R_lo pm_M296 (pc' := 121) (pm_q296_1 (Nat.le_of_ble_eq_true rfl)) rfl rfl ?_
  refine pm_R_lo pm_M296 (pc' := 122) (pm_q296_1 (Nat.le_of_ble_eq_true rfl)) rfl rfl ?_
  refine pm_R_cs pm_M296 (pc' := 125) (ra := [.int 1, .int 0, .int 50, .ref 50]) (rest := []) (ls' := [.ref 50, .int 50, .int 0, .int 1, pm_no]) (pm_q296_1 (Nat.le_of_ble_eq_true rfl)) rfl (Or.inl rfl) pm_M297 rfl rfl (Nat.le_of_ble_eq_true rfl) rfl rfl ?_
  refine pm_R_op pm_M297 (pc' := 1) (st' := [.int 0]) rfl rfl rfl ?_
  refine pm_R_lo pm_M297 (pc' := 3) (ls' := [.ref 50, .int 50, .int 0, .int 1, .int 0]) (st' := []) rfl rfl rfl ?_
  refine pm_R_heq (pm_set_self (a := 50) (c := .inl (0, 200, .inl (fun _ => 0))) (hh 50 (Nat.le_of_ble_eq_true rfl))).symm ?_
  refine p1_L3 (a := 50) (w := 50) (to := 1) (N := 200) (Nat.le_of_ble_eq_true rfl) (Nat.le_of_ble_eq_true rfl) (by decide) (by decide) (fun g_9 => ?_) 50 0 _ rfl
  show pm_R _ 296 125 [.ref 41, .int 0, .int 1, .int 600] [] _ _
  refine pm_R_ret pm_M296 (r := none) (pm_q296_1 (Nat.le_of_ble_eq_true rfl)) rfl ?_
  show pm_R _ 295 24 [.ref 41, .int 0] [] _ _
  refine pm_R_lo pm_M295 (pc' := 25) rfl rfl rfl ?_
  refine pm_R_get pm_M295 (pc' := 28) (v := .ref 71) rfl rfl rfl (Nat.le_of_ble_eq_true rfl) (Nat.le_of_ble_eq_true rfl) rfl rfl ?_
  refine pm_R_lo pm_M295 (pc' := 29) rfl rfl rfl ?_
  refine pm_R_op pm_M295 (pc' := 30) (st' := [.int 1, .int 0, .ref 71]) rfl rfl rfl ?_
  refine pm_R_zast pm_M295 (pc' := 31) rfl (hh 71 (Nat.le_of_ble_eq_true rfl)) (Nat.le_of_ble_eq_true rfl) (Nat.le_of_ble_eq_true rfl) rfl rfl ?_
  refine pm_R_op pm_M295 (pc' := 32) (st' := [.int 1]) rfl rfl rfl ?_
  refine pm_R_ret pm_M295 (r := some (.int 1)) rfl rfl ?_
  show pm_R _ 0 2093 [.ref 0, .ref 16, .ref 41, .int 0] [.int 1, .int 1] _ _
  refine pm_R_br pm_M0 (pc' := 2121) (st' := []) (pm_q0_27 (Nat.le_of_ble_eq_true rfl)) rfl ?_
  exact p1_tail (hh 0 (Nat.le_of_ble_eq_true rfl)) (Nat.le_of_ble_eq_true rfl) (Nat.le_of_ble_eq_true rfl) (Nat.le_of_ble_eq_true rfl)
set_option maxRecDepth 100000 in
set_option maxHeartbeats 40000000 in
theorem p1_c41_eq1 (xs : Nat → Int32) (f : Nat → pm_E) (hh : ∀ i, i < 72 → f i = pm_fF 7 xs i) (x0 x1 x2 x3 x4 x5 x6 : Int32) (hx0 : xs 0 = x0) (hx1 : xs 1 = x1) (hx2 : xs 2 = x2) (hx3 : xs 3 = x3) (hx4 : xs 4 = x4) (hx5 : xs 5 = x5) (hx6 : xs 6 = x6) (hv : x1 = 1) : pm_R 100 0 2075 [.ref 0, .ref 16, .ref 41, .int 0] [] (72, 52657, f) p1_Q := by
  subst hv
  refine pm_R_lo pm_M0 (pc' := 2076) (pm_q0_26 (Nat.le_of_ble_eq_true rfl)) rfl rfl ?_
  refine pm_R_lo pm_M0 (pc' := 2077) (pm_q0_26 (Nat.le_of_ble_eq_true rfl)) rfl rfl ?_
  refine pm_R_lo pm_M0 (pc' := 2078) (pm_q0_26 (Nat.le_of_ble_eq_true rfl)) rfl rfl ?_
  refine pm_R_op pm_M0 (pc' := 2079) (st' := [.int 1, .int 0, .ref 0, .ref 16]) (pm_q0_26 (Nat.le_of_ble_eq_true rfl)) rfl rfl ?_
  refine pm_R_op pm_M0 (pc' := 2080) (st' := [.int 1, .ref 0, .ref 16]) (pm_q0_26 (Nat.le_of_ble_eq_true rfl)) rfl rfl ?_
  refine pm_R_iald pm_M0 (pc' := 2081) (v := 1) (pm_q0_27 (Nat.le_of_ble_eq_true rfl)) (hh 0 (Nat.le_of_ble_eq_true rfl)) (Nat.le_of_ble_eq_true rfl) rfl hx1 rfl ?_
  refine pm_R_cv pm_M0 (pc' := 2084) (a := 16) (ra := [.int 1]) (rest := []) (ls' := [.ref 16, .int 1]) (pm_q0_27 (Nat.le_of_ble_eq_true rfl)) rfl (Or.inl rfl) pm_M57 (hh 16 (Nat.le_of_ble_eq_true rfl)) rfl (Nat.le_of_ble_eq_true rfl) (Nat.le_of_ble_eq_true rfl) rfl rfl (Nat.le_of_ble_eq_true rfl) rfl rfl ?_
  refine pm_R_lo pm_M57 (pc' := 1) rfl rfl rfl ?_
  refine pm_R_br pm_M57 (pc' := 4) (st' := []) rfl rfl ?_
  refine pm_R_lo pm_M57 (pc' := 5) rfl rfl rfl ?_
  refine pm_R_op pm_M57 (pc' := 6) (st' := [.int 3, .int 1]) rfl rfl rfl ?_
  refine pm_R_br pm_M57 (pc' := 11) (st' := []) rfl rfl ?_
  refine pm_R_lo pm_M57 (pc' := 12) rfl rfl rfl ?_
  refine pm_R_get pm_M57 (pc' := 15) (v := .ref 24) rfl rfl (hh 16 (Nat.le_of_ble_eq_true rfl)) (Nat.le_of_ble_eq_true rfl) (Nat.le_of_ble_eq_true rfl) rfl rfl ?_
  refine pm_R_lo pm_M57 (pc' := 16) rfl rfl rfl ?_
  refine pm_R_aald pm_M57 (pc' := 17) (v := .null) rfl (hh 24 (Nat.le_of_ble_eq_true rfl)) (Nat.le_of_ble_eq_true rfl) (Nat.le_of_ble_eq_true rfl) (Nat.le_of_ble_eq_true rfl) (Nat.le_of_ble_eq_true rfl) rfl rfl rfl ?_
  refine pm_R_br pm_M57 (pc' := 20) rfl rfl ?_
  refine pm_R_lo pm_M57 (pc' := 21) rfl rfl rfl ?_
  refine pm_R_get pm_M57 (pc' := 24) (v := .ref 24) rfl rfl (hh 16 (Nat.le_of_ble_eq_true rfl)) (Nat.le_of_ble_eq_true rfl) (Nat.le_of_ble_eq_true rfl) rfl rfl ?_
  refine pm_R_lo pm_M57 (pc' := 25) rfl rfl rfl ?_
  refine pm_R_new pm_M57 (pc' := 28) (fs := [.null, .int 0, .int 0, .int 0, .null, .null, .null, .null, .null]) rfl rfl rfl rfl rfl ?_
  show pm_R _ 57 28 [.ref 16, .int 1] [.ref 72, .int 1, .ref 24] _ _
  refine pm_R_op pm_M57 (pc' := 29) (st' := [.ref 72, .ref 72, .int 1, .ref 24]) rfl rfl rfl ?_
  refine pm_R_ci pm_M57 (pc' := 32) (a := 72) (ra := []) (rest := [.ref 72, .int 1, .ref 24]) (ls' := [.ref 72]) rfl rfl (Or.inr rfl) pm_M2 rfl rfl (Nat.le_of_ble_eq_true rfl) rfl rfl ?_
  refine pm_R_lo pm_M2 (pc' := 1) rfl rfl rfl ?_
  refine pm_R_obj pm_M2 (pc' := 4) rfl rfl rfl (Nat.le_of_ble_eq_true rfl) rfl ?_
  refine pm_R_lo pm_M2 (pc' := 5) rfl rfl rfl ?_
  refine pm_R_op pm_M2 (pc' := 8) (st' := [.int 600, .ref 72]) rfl rfl rfl ?_
  refine pm_R_newa pm_M2 (pc' := 10) (N := 600) rfl rfl (by decide) rfl (Nat.le_of_ble_eq_true rfl) rfl ?_
  show pm_R _ 2 10 [.ref 72] [.ref 73, .ref 72] _ _
  refine pm_R_put pm_M2 (pc' := 13) (fs' := [.ref 73, .int 0, .int 0, .int 0, .null, .null, .null, .null, .null]) rfl rfl rfl rfl (Nat.le_of_ble_eq_true rfl) (Nat.le_of_ble_eq_true rfl) (Nat.le_of_ble_eq_true rfl) rfl (Or.inr ⟨pm_N2_ini, rfl, rfl⟩) rfl rfl ?_
  refine pm_R_lo pm_M2 (pc' := 14) rfl rfl rfl ?_
  refine pm_R_op pm_M2 (pc' := 15) (st' := [.int 0, .ref 72]) rfl rfl rfl ?_
  refine pm_R_put pm_M2 (pc' := 18) (fs' := [.ref 73, .int 0, .int 0, .int 0, .null, .null, .null, .null, .null]) rfl rfl rfl rfl (Nat.le_of_ble_eq_true rfl) (Nat.le_of_ble_eq_true rfl) (Nat.le_of_ble_eq_true rfl) rfl (Or.inl rfl) rfl rfl ?_
  refine pm_R_lo pm_M2 (pc' := 19) rfl rfl rfl ?_
  refine pm_R_op pm_M2 (pc' := 20) (st' := [.int 0, .ref 72]) rfl rfl rfl ?_
  refine pm_R_put pm_M2 (pc' := 23) (fs' := [.ref 73, .int 0, .int 0, .int 0, .null, .null, .null, .null, .null]) rfl rfl rfl rfl (Nat.le_of_ble_eq_true rfl) (Nat.le_of_ble_eq_true rfl) (Nat.le_of_ble_eq_true rfl) rfl (Or.inl rfl) rfl rfl ?_
  refine pm_R_lo pm_M2 (pc' := 24) rfl rfl rfl ?_
  refine pm_R_op pm_M2 (pc' := 25) (st' := [.int (-1), .ref 72]) rfl rfl rfl ?_
  refine pm_R_put pm_M2 (pc' := 28) (fs' := [.ref 73, .int 0, .int 0, .int (-1), .null, .null, .null, .null, .null]) rfl rfl rfl rfl (Nat.le_of_ble_eq_true rfl) (Nat.le_of_ble_eq_true rfl) (Nat.le_of_ble_eq_true rfl) rfl (Or.inl rfl) rfl rfl ?_
  refine pm_R_lo pm_M2 (pc' := 29) rfl rfl rfl ?_
  refine pm_R_stat pm_M2 (pc' := 32) rfl rfl rfl ?_
  refine pm_R_op pm_M2 (pc' := 33) (st' := [.int 0, .ref 1, .ref 72]) rfl rfl rfl ?_
  refine pm_R_iald pm_M2 (pc' := 34) (v := 2) rfl (hh 1 (Nat.le_of_ble_eq_true rfl)) (Nat.le_of_ble_eq_true rfl) rfl rfl rfl ?_
  refine pm_R_newq pm_M2 (pc' := 37) (N := 2) rfl rfl rfl (by decide) rfl (Nat.le_of_ble_eq_true rfl) rfl ?_
  show pm_R _ 2 37 [.ref 72] [.ref 74, .ref 72] _ _
  refine pm_R_put pm_M2 (pc' := 40) (fs' := [.ref 73, .int 0, .int 0, .int (-1), .ref 74, .null, .null, .null, .null]) rfl rfl rfl rfl (Nat.le_of_ble_eq_true rfl) (Nat.le_of_ble_eq_true rfl) (Nat.le_of_ble_eq_true rfl) rfl (Or.inr ⟨pm_N2_ini, rfl, rfl⟩) rfl rfl ?_
  refine pm_R_lo pm_M2 (pc' := 41) rfl rfl rfl ?_
  refine pm_R_stat pm_M2 (pc' := 44) rfl rfl rfl ?_
  refine pm_R_op pm_M2 (pc' := 45) (st' := [.int 1, .ref 1, .ref 72]) rfl rfl rfl ?_
  refine pm_R_iald pm_M2 (pc' := 46) (v := 3) rfl (hh 1 (Nat.le_of_ble_eq_true rfl)) (Nat.le_of_ble_eq_true rfl) rfl rfl rfl ?_
  refine pm_R_newq pm_M2 (pc' := 49) (N := 3) rfl rfl rfl (by decide) rfl (Nat.le_of_ble_eq_true rfl) rfl ?_
  show pm_R _ 2 49 [.ref 72] [.ref 75, .ref 72] _ _
  refine pm_R_put pm_M2 (pc' := 52) (fs' := [.ref 73, .int 0, .int 0, .int (-1), .ref 74, .ref 75, .null, .null, .null]) rfl rfl rfl rfl (Nat.le_of_ble_eq_true rfl) (Nat.le_of_ble_eq_true rfl) (Nat.le_of_ble_eq_true rfl) rfl (Or.inr ⟨pm_N2_ini, rfl, rfl⟩) rfl rfl ?_
  refine pm_R_lo pm_M2 (pc' := 53) rfl rfl rfl ?_
  refine pm_R_stat pm_M2 (pc' := 56) rfl rfl rfl ?_
  refine pm_R_op pm_M2 (pc' := 57) (st' := [.int 2, .ref 1, .ref 72]) rfl rfl rfl ?_
  refine pm_R_iald pm_M2 (pc' := 58) (v := 2) rfl (hh 1 (Nat.le_of_ble_eq_true rfl)) (Nat.le_of_ble_eq_true rfl) rfl rfl rfl ?_
  refine pm_R_newq pm_M2 (pc' := 61) (N := 2) rfl rfl rfl (by decide) rfl (Nat.le_of_ble_eq_true rfl) rfl ?_
  show pm_R _ 2 61 [.ref 72] [.ref 76, .ref 72] _ _
  refine pm_R_put pm_M2 (pc' := 64) (fs' := [.ref 73, .int 0, .int 0, .int (-1), .ref 74, .ref 75, .ref 76, .null, .null]) rfl rfl rfl rfl (Nat.le_of_ble_eq_true rfl) (Nat.le_of_ble_eq_true rfl) (Nat.le_of_ble_eq_true rfl) rfl (Or.inr ⟨pm_N2_ini, rfl, rfl⟩) rfl rfl ?_
  refine pm_R_lo pm_M2 (pc' := 65) rfl rfl rfl ?_
  refine pm_R_stat pm_M2 (pc' := 68) rfl rfl rfl ?_
  refine pm_R_op pm_M2 (pc' := 69) (st' := [.int 3, .ref 1, .ref 72]) rfl rfl rfl ?_
  refine pm_R_iald pm_M2 (pc' := 70) (v := 2) rfl (hh 1 (Nat.le_of_ble_eq_true rfl)) (Nat.le_of_ble_eq_true rfl) rfl rfl rfl ?_
  refine pm_R_newq pm_M2 (pc' := 73) (N := 2) rfl rfl rfl (by decide) rfl (Nat.le_of_ble_eq_true rfl) rfl ?_
  show pm_R _ 2 73 [.ref 72] [.ref 77, .ref 72] _ _
  refine pm_R_put pm_M2 (pc' := 76) (fs' := [.ref 73, .int 0, .int 0, .int (-1), .ref 74, .ref 75, .ref 76, .ref 77, .null]) rfl rfl rfl rfl (Nat.le_of_ble_eq_true rfl) (Nat.le_of_ble_eq_true rfl) (Nat.le_of_ble_eq_true rfl) rfl (Or.inr ⟨pm_N2_ini, rfl, rfl⟩) rfl rfl ?_
  refine pm_R_lo pm_M2 (pc' := 77) rfl rfl rfl ?_
  refine pm_R_op pm_M2 (pc' := 78) (st' := [.int 4, .ref 72]) rfl rfl rfl ?_
  refine pm_R_newa pm_M2 (pc' := 80) (N := 4) rfl rfl (by decide) rfl (Nat.le_of_ble_eq_true rfl) rfl ?_
  show pm_R _ 2 80 [.ref 72] [.ref 78, .ref 72] _ _
  refine pm_R_put pm_M2 (pc' := 83) (fs' := [.ref 73, .int 0, .int 0, .int (-1), .ref 74, .ref 75, .ref 76, .ref 77, .ref 78]) rfl rfl rfl rfl (Nat.le_of_ble_eq_true rfl) (Nat.le_of_ble_eq_true rfl) (Nat.le_of_ble_eq_true rfl) rfl (Or.inr ⟨pm_N2_ini, rfl, rfl⟩) rfl rfl ?_
  refine pm_R_ret pm_M2 (r := none) rfl rfl ?_
  show pm_R _ 57 32 [.ref 16, .int 1] [.ref 72, .int 1, .ref 24] _ _
  refine pm_R_aast pm_M57 (pc' := 33) rfl (hh 24 (Nat.le_of_ble_eq_true rfl)) rfl rfl (Nat.le_of_ble_eq_true rfl) (Nat.le_of_ble_eq_true rfl) (Nat.le_of_ble_eq_true rfl) (Nat.le_of_ble_eq_true rfl) rfl rfl ?_
  refine pm_R_lo pm_M57 (pc' := 34) rfl rfl rfl ?_
  refine pm_R_get pm_M57 (pc' := 37) (v := .ref 24) rfl rfl (hh 16 (Nat.le_of_ble_eq_true rfl)) (Nat.le_of_ble_eq_true rfl) (Nat.le_of_ble_eq_true rfl) rfl rfl ?_
  refine pm_R_lo pm_M57 (pc' := 38) rfl rfl rfl ?_
  refine pm_R_aald pm_M57 (pc' := 39) (v := .ref 72) rfl rfl (Nat.le_of_ble_eq_true rfl) (Nat.le_of_ble_eq_true rfl) (Nat.le_of_ble_eq_true rfl) (Nat.le_of_ble_eq_true rfl) rfl rfl rfl ?_
  refine pm_R_lo pm_M57 (pc' := 40) rfl rfl rfl ?_
  refine pm_R_get pm_M57 (pc' := 43) (v := .ref 17) rfl rfl (hh 16 (Nat.le_of_ble_eq_true rfl)) (Nat.le_of_ble_eq_true rfl) (Nat.le_of_ble_eq_true rfl) rfl rfl ?_
  refine pm_R_cv pm_M57 (pc' := 46) (a := 72) (ra := [.ref 17]) (rest := []) (ls' := [.ref 72, .ref 17]) rfl rfl (Or.inl rfl) pm_M58 rfl rfl (Nat.le_of_ble_eq_true rfl) (Nat.le_of_ble_eq_true rfl) rfl rfl (Nat.le_of_ble_eq_true rfl) rfl rfl ?_
  refine pm_R_lo pm_M58 (pc' := 1) rfl rfl rfl ?_
  refine pm_R_get pm_M58 (pc' := 4) (v := .ref 18) rfl rfl (hh 17 (Nat.le_of_ble_eq_true rfl)) (Nat.le_of_ble_eq_true rfl) (Nat.le_of_ble_eq_true rfl) rfl rfl ?_
  refine pm_R_op pm_M58 (pc' := 5) (st' := [.int 0, .ref 18]) rfl rfl rfl ?_
  refine pm_R_lo pm_M58 (pc' := 6) rfl rfl rfl ?_
  refine pm_R_get pm_M58 (pc' := 9) (v := .ref 73) rfl rfl rfl (Nat.le_of_ble_eq_true rfl) (Nat.le_of_ble_eq_true rfl) rfl rfl ?_
  refine pm_R_op pm_M58 (pc' := 10) (st' := [.int 0, .ref 73, .int 0, .ref 18]) rfl rfl rfl ?_
  refine pm_R_op pm_M58 (pc' := 13) (st' := [.int 600, .int 0, .ref 73, .int 0, .ref 18]) rfl rfl rfl ?_
  refine pm_R_acp pm_M58 (pc' := 16) (S := 0) (D := 0) (N := 600) rfl rfl rfl (hh 18 (Nat.le_of_ble_eq_true rfl)) rfl (Or.inr rfl) (Nat.le_of_ble_eq_true rfl) (Nat.le_of_ble_eq_true rfl) (Nat.le_of_ble_eq_true rfl) (Nat.le_of_ble_eq_true rfl) rfl rfl rfl (by decide) (by decide) (by decide) (Nat.le_of_ble_eq_true rfl) (Nat.le_of_ble_eq_true rfl) (Nat.le_of_ble_eq_true rfl) rfl ?_
  refine pm_R_lo pm_M58 (pc' := 17) rfl rfl rfl ?_
  refine pm_R_lo pm_M58 (pc' := 18) rfl rfl rfl ?_
  refine pm_R_get pm_M58 (pc' := 21) (v := .int 0) rfl rfl (hh 17 (Nat.le_of_ble_eq_true rfl)) (Nat.le_of_ble_eq_true rfl) (Nat.le_of_ble_eq_true rfl) rfl rfl ?_
  refine pm_R_put pm_M58 (pc' := 24) (fs' := [.ref 73, .int 0, .int 0, .int (-1), .ref 74, .ref 75, .ref 76, .ref 77, .ref 78]) rfl rfl rfl rfl (Nat.le_of_ble_eq_true rfl) (Nat.le_of_ble_eq_true rfl) (Nat.le_of_ble_eq_true rfl) rfl (Or.inl rfl) rfl rfl ?_
  refine pm_R_lo pm_M58 (pc' := 25) rfl rfl rfl ?_
  refine pm_R_lo pm_M58 (pc' := 26) rfl rfl rfl ?_
  refine pm_R_get pm_M58 (pc' := 29) (v := .int 0) rfl rfl (hh 17 (Nat.le_of_ble_eq_true rfl)) (Nat.le_of_ble_eq_true rfl) (Nat.le_of_ble_eq_true rfl) rfl rfl ?_
  refine pm_R_put pm_M58 (pc' := 32) (fs' := [.ref 73, .int 0, .int 0, .int (-1), .ref 74, .ref 75, .ref 76, .ref 77, .ref 78]) rfl rfl rfl rfl (Nat.le_of_ble_eq_true rfl) (Nat.le_of_ble_eq_true rfl) (Nat.le_of_ble_eq_true rfl) rfl (Or.inl rfl) rfl rfl ?_
  refine pm_R_lo pm_M58 (pc' := 33) rfl rfl rfl ?_
  refine pm_R_lo pm_M58 (pc' := 34) rfl rfl rfl ?_
  refine pm_R_get pm_M58 (pc' := 37) (v := .int (-1)) rfl rfl (hh 17 (Nat.le_of_ble_eq_true rfl)) (Nat.le_of_ble_eq_true rfl) (Nat.le_of_ble_eq_true rfl) rfl rfl ?_
  refine pm_R_put pm_M58 (pc' := 40) (fs' := [.ref 73, .int 0, .int 0, .int (-1), .ref 74, .ref 75, .ref 76, .ref 77, .ref 78]) rfl rfl rfl rfl (Nat.le_of_ble_eq_true rfl) (Nat.le_of_ble_eq_true rfl) (Nat.le_of_ble_eq_true rfl) rfl (Or.inl rfl) rfl rfl ?_
  refine pm_R_lo pm_M58 (pc' := 41) rfl rfl rfl ?_
  refine pm_R_get pm_M58 (pc' := 44) (v := .ref 23) rfl rfl (hh 17 (Nat.le_of_ble_eq_true rfl)) (Nat.le_of_ble_eq_true rfl) (Nat.le_of_ble_eq_true rfl) rfl rfl ?_
  refine pm_R_op pm_M58 (pc' := 45) (st' := [.int 0, .ref 23]) rfl rfl rfl ?_
  refine pm_R_lo pm_M58 (pc' := 46) rfl rfl rfl ?_
  refine pm_R_get pm_M58 (pc' := 49) (v := .ref 78) rfl rfl rfl (Nat.le_of_ble_eq_true rfl) (Nat.le_of_ble_eq_true rfl) rfl rfl ?_
  refine pm_R_op pm_M58 (pc' := 50) (st' := [.int 0, .ref 78, .int 0, .ref 23]) rfl rfl rfl ?_
  refine pm_R_op pm_M58 (pc' := 51) (st' := [.int 4, .int 0, .ref 78, .int 0, .ref 23]) rfl rfl rfl ?_
  refine pm_R_acp pm_M58 (pc' := 54) (S := 0) (D := 0) (N := 4) rfl rfl rfl (hh 23 (Nat.le_of_ble_eq_true rfl)) rfl (Or.inl rfl) (Nat.le_of_ble_eq_true rfl) (Nat.le_of_ble_eq_true rfl) (Nat.le_of_ble_eq_true rfl) (Nat.le_of_ble_eq_true rfl) rfl rfl rfl (by decide) (by decide) (by decide) (Nat.le_of_ble_eq_true rfl) (Nat.le_of_ble_eq_true rfl) (Nat.le_of_ble_eq_true rfl) rfl ?_
  refine pm_R_lo pm_M58 (pc' := 55) rfl rfl rfl ?_
  refine pm_R_lo pm_M58 (pc' := 56) rfl rfl rfl ?_
  refine pm_R_cv pm_M58 (pc' := 59) (a := 72) (ra := [.ref 17]) (rest := []) (ls' := [.ref 72, .ref 17, pm_no]) rfl rfl (Or.inl rfl) pm_M59 rfl rfl (Nat.le_of_ble_eq_true rfl) (Nat.le_of_ble_eq_true rfl) rfl rfl (Nat.le_of_ble_eq_true rfl) rfl rfl ?_
  refine pm_R_op pm_M59 (pc' := 1) (st' := [.int 0]) rfl rfl rfl ?_
  refine pm_R_lo pm_M59 (pc' := 2) (ls' := [.ref 72, .ref 17, .int 0]) (st' := []) rfl rfl rfl ?_
  refine pm_R_lo pm_M59 (pc' := 3) rfl rfl rfl ?_
  refine pm_R_lo pm_M59 (pc' := 4) rfl rfl rfl ?_
  refine pm_R_get pm_M59 (pc' := 7) (v := .ref 74) rfl rfl rfl (Nat.le_of_ble_eq_true rfl) (Nat.le_of_ble_eq_true rfl) rfl rfl ?_
  refine pm_R_alen pm_M59 (pc' := 8) (v := 2) rfl rfl (Nat.le_of_ble_eq_true rfl) (Nat.le_of_ble_eq_true rfl) (Nat.le_of_ble_eq_true rfl) rfl rfl ?_
  refine pm_R_br pm_M59 (pc' := 11) (st' := []) rfl rfl ?_
  refine pm_R_lo pm_M59 (pc' := 12) rfl rfl rfl ?_
  refine pm_R_get pm_M59 (pc' := 15) (v := .ref 74) rfl rfl rfl (Nat.le_of_ble_eq_true rfl) (Nat.le_of_ble_eq_true rfl) rfl rfl ?_
  refine pm_R_lo pm_M59 (pc' := 16) rfl rfl rfl ?_
  refine pm_R_lo pm_M59 (pc' := 17) rfl rfl rfl ?_
  refine pm_R_get pm_M59 (pc' := 20) (v := .ref 19) rfl rfl (hh 17 (Nat.le_of_ble_eq_true rfl)) (Nat.le_of_ble_eq_true rfl) (Nat.le_of_ble_eq_true rfl) rfl rfl ?_
  refine pm_R_lo pm_M59 (pc' := 21) rfl rfl rfl ?_
  refine pm_R_aald pm_M59 (pc' := 22) (v := .null) rfl (hh 19 (Nat.le_of_ble_eq_true rfl)) (Nat.le_of_ble_eq_true rfl) (Nat.le_of_ble_eq_true rfl) (Nat.le_of_ble_eq_true rfl) (Nat.le_of_ble_eq_true rfl) rfl rfl rfl ?_
  refine pm_R_aastN pm_M59 (pc' := 23) rfl rfl (Nat.le_of_ble_eq_true rfl) (Nat.le_of_ble_eq_true rfl) (Nat.le_of_ble_eq_true rfl) (Nat.le_of_ble_eq_true rfl) rfl rfl ?_
  refine pm_R_lo pm_M59 (pc' := 26) (ls' := [.ref 72, .ref 17, .int 1]) (st' := []) rfl rfl rfl ?_
  refine pm_R_br pm_M59 (pc' := 2) rfl rfl ?_
  refine pm_R_lo pm_M59 (pc' := 3) rfl rfl rfl ?_
  refine pm_R_lo pm_M59 (pc' := 4) rfl rfl rfl ?_
  refine pm_R_get pm_M59 (pc' := 7) (v := .ref 74) rfl rfl rfl (Nat.le_of_ble_eq_true rfl) (Nat.le_of_ble_eq_true rfl) rfl rfl ?_
  refine pm_R_alen pm_M59 (pc' := 8) (v := 2) rfl rfl (Nat.le_of_ble_eq_true rfl) (Nat.le_of_ble_eq_true rfl) (Nat.le_of_ble_eq_true rfl) rfl rfl ?_
  refine pm_R_br pm_M59 (pc' := 11) (st' := []) rfl rfl ?_
  refine pm_R_lo pm_M59 (pc' := 12) rfl rfl rfl ?_
  refine pm_R_get pm_M59 (pc' := 15) (v := .ref 74) rfl rfl rfl (Nat.le_of_ble_eq_true rfl) (Nat.le_of_ble_eq_true rfl) rfl rfl ?_
  refine pm_R_lo pm_M59 (pc' := 16) rfl rfl rfl ?_
  refine pm_R_lo pm_M59 (pc' := 17) rfl rfl rfl ?_
  refine pm_R_get pm_M59 (pc' := 20) (v := .ref 19) rfl rfl (hh 17 (Nat.le_of_ble_eq_true rfl)) (Nat.le_of_ble_eq_true rfl) (Nat.le_of_ble_eq_true rfl) rfl rfl ?_
  refine pm_R_lo pm_M59 (pc' := 21) rfl rfl rfl ?_
  refine pm_R_aald pm_M59 (pc' := 22) (v := .null) rfl (hh 19 (Nat.le_of_ble_eq_true rfl)) (Nat.le_of_ble_eq_true rfl) (Nat.le_of_ble_eq_true rfl) (Nat.le_of_ble_eq_true rfl) (Nat.le_of_ble_eq_true rfl) rfl rfl rfl ?_
  refine pm_R_aastN pm_M59 (pc' := 23) rfl rfl (Nat.le_of_ble_eq_true rfl) (Nat.le_of_ble_eq_true rfl) (Nat.le_of_ble_eq_true rfl) (Nat.le_of_ble_eq_true rfl) rfl rfl ?_
  refine pm_R_lo pm_M59 (pc' := 26) (ls' := [.ref 72, .ref 17, .int 2]) (st' := []) rfl rfl rfl ?_
  refine pm_R_br pm_M59 (pc' := 2) rfl rfl ?_
  refine pm_R_lo pm_M59 (pc' := 3) rfl rfl rfl ?_
  refine pm_R_lo pm_M59 (pc' := 4) rfl rfl rfl ?_
  refine pm_R_get pm_M59 (pc' := 7) (v := .ref 74) rfl rfl rfl (Nat.le_of_ble_eq_true rfl) (Nat.le_of_ble_eq_true rfl) rfl rfl ?_
  refine pm_R_alen pm_M59 (pc' := 8) (v := 2) rfl rfl (Nat.le_of_ble_eq_true rfl) (Nat.le_of_ble_eq_true rfl) (Nat.le_of_ble_eq_true rfl) rfl rfl ?_
  refine pm_R_br pm_M59 (pc' := 29) (st' := []) rfl rfl ?_
  refine pm_R_op pm_M59 (pc' := 30) (st' := [.int 0]) rfl rfl rfl ?_
  refine pm_R_lo pm_M59 (pc' := 31) (ls' := [.ref 72, .ref 17, .int 0]) (st' := []) rfl rfl rfl ?_
  refine pm_R_lo pm_M59 (pc' := 32) rfl rfl rfl ?_
  refine pm_R_lo pm_M59 (pc' := 33) rfl rfl rfl ?_
  refine pm_R_get pm_M59 (pc' := 36) (v := .ref 75) rfl rfl rfl (Nat.le_of_ble_eq_true rfl) (Nat.le_of_ble_eq_true rfl) rfl rfl ?_
  refine pm_R_alen pm_M59 (pc' := 37) (v := 3) rfl rfl (Nat.le_of_ble_eq_true rfl) (Nat.le_of_ble_eq_true rfl) (Nat.le_of_ble_eq_true rfl) rfl rfl ?_
  refine pm_R_br pm_M59 (pc' := 40) (st' := []) rfl rfl ?_
  refine pm_R_lo pm_M59 (pc' := 41) rfl rfl rfl ?_
  refine pm_R_get pm_M59 (pc' := 44) (v := .ref 75) rfl rfl rfl (Nat.le_of_ble_eq_true rfl) (Nat.le_of_ble_eq_true rfl) rfl rfl ?_
  refine pm_R_lo pm_M59 (pc' := 45) rfl rfl rfl ?_
  refine pm_R_lo pm_M59 (pc' := 46) rfl rfl rfl ?_
  refine pm_R_get pm_M59 (pc' := 49) (v := .ref 20) rfl rfl (hh 17 (Nat.le_of_ble_eq_true rfl)) (Nat.le_of_ble_eq_true rfl) (Nat.le_of_ble_eq_true rfl) rfl rfl ?_
  refine pm_R_lo pm_M59 (pc' := 50) rfl rfl rfl ?_
  refine pm_R_aald pm_M59 (pc' := 51) (v := .null) rfl (hh 20 (Nat.le_of_ble_eq_true rfl)) (Nat.le_of_ble_eq_true rfl) (Nat.le_of_ble_eq_true rfl) (Nat.le_of_ble_eq_true rfl) (Nat.le_of_ble_eq_true rfl) rfl rfl rfl ?_
  refine pm_R_aastN pm_M59 (pc' := 52) rfl rfl (Nat.le_of_ble_eq_true rfl) (Nat.le_of_ble_eq_true rfl) (Nat.le_of_ble_eq_true rfl) (Nat.le_of_ble_eq_true rfl) rfl rfl ?_
  refine pm_R_lo pm_M59 (pc' := 55) (ls' := [.ref 72, .ref 17, .int 1]) (st' := []) rfl rfl rfl ?_
  refine pm_R_br pm_M59 (pc' := 31) rfl rfl ?_
  refine pm_R_lo pm_M59 (pc' := 32) rfl rfl rfl ?_
  refine pm_R_lo pm_M59 (pc' := 33) rfl rfl rfl ?_
  refine pm_R_get pm_M59 (pc' := 36) (v := .ref 75) rfl rfl rfl (Nat.le_of_ble_eq_true rfl) (Nat.le_of_ble_eq_true rfl) rfl rfl ?_
  refine pm_R_alen pm_M59 (pc' := 37) (v := 3) rfl rfl (Nat.le_of_ble_eq_true rfl) (Nat.le_of_ble_eq_true rfl) (Nat.le_of_ble_eq_true rfl) rfl rfl ?_
  refine pm_R_br pm_M59 (pc' := 40) (st' := []) rfl rfl ?_
  refine pm_R_lo pm_M59 (pc' := 41) rfl rfl rfl ?_
  refine pm_R_get pm_M59 (pc' := 44) (v := .ref 75) rfl rfl rfl (Nat.le_of_ble_eq_true rfl) (Nat.le_of_ble_eq_true rfl) rfl rfl ?_
  refine pm_R_lo pm_M59 (pc' := 45) rfl rfl rfl ?_
  refine pm_R_lo pm_M59 (pc' := 46) rfl rfl rfl ?_
  refine pm_R_get pm_M59 (pc' := 49) (v := .ref 20) rfl rfl (hh 17 (Nat.le_of_ble_eq_true rfl)) (Nat.le_of_ble_eq_true rfl) (Nat.le_of_ble_eq_true rfl) rfl rfl ?_
  refine pm_R_lo pm_M59 (pc' := 50) rfl rfl rfl ?_
  refine pm_R_aald pm_M59 (pc' := 51) (v := .null) rfl (hh 20 (Nat.le_of_ble_eq_true rfl)) (Nat.le_of_ble_eq_true rfl) (Nat.le_of_ble_eq_true rfl) (Nat.le_of_ble_eq_true rfl) (Nat.le_of_ble_eq_true rfl) rfl rfl rfl ?_
  refine pm_R_aastN pm_M59 (pc' := 52) rfl rfl (Nat.le_of_ble_eq_true rfl) (Nat.le_of_ble_eq_true rfl) (Nat.le_of_ble_eq_true rfl) (Nat.le_of_ble_eq_true rfl) rfl rfl ?_
  refine pm_R_lo pm_M59 (pc' := 55) (ls' := [.ref 72, .ref 17, .int 2]) (st' := []) rfl rfl rfl ?_
  refine pm_R_br pm_M59 (pc' := 31) rfl rfl ?_
  refine pm_R_lo pm_M59 (pc' := 32) rfl rfl rfl ?_
  refine pm_R_lo pm_M59 (pc' := 33) rfl rfl rfl ?_
  refine pm_R_get pm_M59 (pc' := 36) (v := .ref 75) rfl rfl rfl (Nat.le_of_ble_eq_true rfl) (Nat.le_of_ble_eq_true rfl) rfl rfl ?_
  refine pm_R_alen pm_M59 (pc' := 37) (v := 3) rfl rfl (Nat.le_of_ble_eq_true rfl) (Nat.le_of_ble_eq_true rfl) (Nat.le_of_ble_eq_true rfl) rfl rfl ?_
  refine pm_R_br pm_M59 (pc' := 40) (st' := []) rfl rfl ?_
  refine pm_R_lo pm_M59 (pc' := 41) rfl rfl rfl ?_
  refine pm_R_get pm_M59 (pc' := 44) (v := .ref 75) rfl rfl rfl (Nat.le_of_ble_eq_true rfl) (Nat.le_of_ble_eq_true rfl) rfl rfl ?_
  refine pm_R_lo pm_M59 (pc' := 45) rfl rfl rfl ?_
  refine pm_R_lo pm_M59 (pc' := 46) rfl rfl rfl ?_
  refine pm_R_get pm_M59 (pc' := 49) (v := .ref 20) rfl rfl (hh 17 (Nat.le_of_ble_eq_true rfl)) (Nat.le_of_ble_eq_true rfl) (Nat.le_of_ble_eq_true rfl) rfl rfl ?_
  refine pm_R_lo pm_M59 (pc' := 50) rfl rfl rfl ?_
  refine pm_R_aald pm_M59 (pc' := 51) (v := .null) rfl (hh 20 (Nat.le_of_ble_eq_true rfl)) (Nat.le_of_ble_eq_true rfl) (Nat.le_of_ble_eq_true rfl) (Nat.le_of_ble_eq_true rfl) (Nat.le_of_ble_eq_true rfl) rfl rfl rfl ?_
  refine pm_R_aastN pm_M59 (pc' := 52) rfl rfl (Nat.le_of_ble_eq_true rfl) (Nat.le_of_ble_eq_true rfl) (Nat.le_of_ble_eq_true rfl) (Nat.le_of_ble_eq_true rfl) rfl rfl ?_
  refine pm_R_lo pm_M59 (pc' := 55) (ls' := [.ref 72, .ref 17, .int 3]) (st' := []) rfl rfl rfl ?_
  refine pm_R_br pm_M59 (pc' := 31) rfl rfl ?_
  refine pm_R_lo pm_M59 (pc' := 32) rfl rfl rfl ?_
  refine pm_R_lo pm_M59 (pc' := 33) rfl rfl rfl ?_
  refine pm_R_get pm_M59 (pc' := 36) (v := .ref 75) rfl rfl rfl (Nat.le_of_ble_eq_true rfl) (Nat.le_of_ble_eq_true rfl) rfl rfl ?_
  refine pm_R_alen pm_M59 (pc' := 37) (v := 3) rfl rfl (Nat.le_of_ble_eq_true rfl) (Nat.le_of_ble_eq_true rfl) (Nat.le_of_ble_eq_true rfl) rfl rfl ?_
  refine pm_R_br pm_M59 (pc' := 58) (st' := []) rfl rfl ?_
  refine pm_R_op pm_M59 (pc' := 59) (st' := [.int 0]) rfl rfl rfl ?_
  refine pm_R_lo pm_M59 (pc' := 60) (ls' := [.ref 72, .ref 17, .int 0]) (st' := []) rfl rfl rfl ?_
  refine pm_R_lo pm_M59 (pc' := 61) rfl rfl rfl ?_
  refine pm_R_lo pm_M59 (pc' := 62) rfl rfl rfl ?_
  refine pm_R_get pm_M59 (pc' := 65) (v := .ref 76) rfl rfl rfl (Nat.le_of_ble_eq_true rfl) (Nat.le_of_ble_eq_true rfl) rfl rfl ?_
  refine pm_R_alen pm_M59 (pc' := 66) (v := 2) rfl rfl (Nat.le_of_ble_eq_true rfl) (Nat.le_of_ble_eq_true rfl) (Nat.le_of_ble_eq_true rfl) rfl rfl ?_
  refine pm_R_br pm_M59 (pc' := 69) (st' := []) rfl rfl ?_
  refine pm_R_lo pm_M59 (pc' := 70) rfl rfl rfl ?_
  refine pm_R_get pm_M59 (pc' := 73) (v := .ref 76) rfl rfl rfl (Nat.le_of_ble_eq_true rfl) (Nat.le_of_ble_eq_true rfl) rfl rfl ?_
  refine pm_R_lo pm_M59 (pc' := 74) rfl rfl rfl ?_
  refine pm_R_lo pm_M59 (pc' := 75) rfl rfl rfl ?_
  refine pm_R_get pm_M59 (pc' := 78) (v := .ref 21) rfl rfl (hh 17 (Nat.le_of_ble_eq_true rfl)) (Nat.le_of_ble_eq_true rfl) (Nat.le_of_ble_eq_true rfl) rfl rfl ?_
  refine pm_R_lo pm_M59 (pc' := 79) rfl rfl rfl ?_
  refine pm_R_aald pm_M59 (pc' := 80) (v := .null) rfl (hh 21 (Nat.le_of_ble_eq_true rfl)) (Nat.le_of_ble_eq_true rfl) (Nat.le_of_ble_eq_true rfl) (Nat.le_of_ble_eq_true rfl) (Nat.le_of_ble_eq_true rfl) rfl rfl rfl ?_
  refine pm_R_aastN pm_M59 (pc' := 81) rfl rfl (Nat.le_of_ble_eq_true rfl) (Nat.le_of_ble_eq_true rfl) (Nat.le_of_ble_eq_true rfl) (Nat.le_of_ble_eq_true rfl) rfl rfl ?_
  refine pm_R_lo pm_M59 (pc' := 84) (ls' := [.ref 72, .ref 17, .int 1]) (st' := []) rfl rfl rfl ?_
  refine pm_R_br pm_M59 (pc' := 60) rfl rfl ?_
  refine pm_R_lo pm_M59 (pc' := 61) rfl rfl rfl ?_
  refine pm_R_lo pm_M59 (pc' := 62) rfl rfl rfl ?_
  refine pm_R_get pm_M59 (pc' := 65) (v := .ref 76) rfl rfl rfl (Nat.le_of_ble_eq_true rfl) (Nat.le_of_ble_eq_true rfl) rfl rfl ?_
  refine pm_R_alen pm_M59 (pc' := 66) (v := 2) rfl rfl (Nat.le_of_ble_eq_true rfl) (Nat.le_of_ble_eq_true rfl) (Nat.le_of_ble_eq_true rfl) rfl rfl ?_
  refine pm_R_br pm_M59 (pc' := 69) (st' := []) rfl rfl ?_
  refine pm_R_lo pm_M59 (pc' := 70) rfl rfl rfl ?_
  refine pm_R_get pm_M59 (pc' := 73) (v := .ref 76) rfl rfl rfl (Nat.le_of_ble_eq_true rfl) (Nat.le_of_ble_eq_true rfl) rfl rfl ?_
  refine pm_R_lo pm_M59 (pc' := 74) rfl rfl rfl ?_
  refine pm_R_lo pm_M59 (pc' := 75) rfl rfl rfl ?_
  refine pm_R_get pm_M59 (pc' := 78) (v := .ref 21) rfl rfl (hh 17 (Nat.le_of_ble_eq_true rfl)) (Nat.le_of_ble_eq_true rfl) (Nat.le_of_ble_eq_true rfl) rfl rfl ?_
  refine pm_R_lo pm_M59 (pc' := 79) rfl rfl rfl ?_
  refine pm_R_aald pm_M59 (pc' := 80) (v := .null) rfl (hh 21 (Nat.le_of_ble_eq_true rfl)) (Nat.le_of_ble_eq_true rfl) (Nat.le_of_ble_eq_true rfl) (Nat.le_of_ble_eq_true rfl) (Nat.le_of_ble_eq_true rfl) rfl rfl rfl ?_
  refine pm_R_aastN pm_M59 (pc' := 81) rfl rfl (Nat.le_of_ble_eq_true rfl) (Nat.le_of_ble_eq_true rfl) (Nat.le_of_ble_eq_true rfl) (Nat.le_of_ble_eq_true rfl) rfl rfl ?_
  refine pm_R_lo pm_M59 (pc' := 84) (ls' := [.ref 72, .ref 17, .int 2]) (st' := []) rfl rfl rfl ?_
  refine pm_R_br pm_M59 (pc' := 60) rfl rfl ?_
  refine pm_R_lo pm_M59 (pc' := 61) rfl rfl rfl ?_
  refine pm_R_lo pm_M59 (pc' := 62) rfl rfl rfl ?_
  refine pm_R_get pm_M59 (pc' := 65) (v := .ref 76) rfl rfl rfl (Nat.le_of_ble_eq_true rfl) (Nat.le_of_ble_eq_true rfl) rfl rfl ?_
  refine pm_R_alen pm_M59 (pc' := 66) (v := 2) rfl rfl (Nat.le_of_ble_eq_true rfl) (Nat.le_of_ble_eq_true rfl) (Nat.le_of_ble_eq_true rfl) rfl rfl ?_
  refine pm_R_br pm_M59 (pc' := 87) (st' := []) rfl rfl ?_
  refine pm_R_op pm_M59 (pc' := 88) (st' := [.int 0]) rfl rfl rfl ?_
  refine pm_R_lo pm_M59 (pc' := 89) (ls' := [.ref 72, .ref 17, .int 0]) (st' := []) rfl rfl rfl ?_
  refine pm_R_lo pm_M59 (pc' := 90) rfl rfl rfl ?_
  refine pm_R_lo pm_M59 (pc' := 91) rfl rfl rfl ?_
  refine pm_R_get pm_M59 (pc' := 94) (v := .ref 77) rfl rfl rfl (Nat.le_of_ble_eq_true rfl) (Nat.le_of_ble_eq_true rfl) rfl rfl ?_
  refine pm_R_alen pm_M59 (pc' := 95) (v := 2) rfl rfl (Nat.le_of_ble_eq_true rfl) (Nat.le_of_ble_eq_true rfl) (Nat.le_of_ble_eq_true rfl) rfl rfl ?_
  refine pm_R_br pm_M59 (pc' := 98) (st' := []) rfl rfl ?_
  refine pm_R_lo pm_M59 (pc' := 99) rfl rfl rfl ?_
  refine pm_R_get pm_M59 (pc' := 102) (v := .ref 77) rfl rfl rfl (Nat.le_of_ble_eq_true rfl) (Nat.le_of_ble_eq_true rfl) rfl rfl ?_
  refine pm_R_lo pm_M59 (pc' := 103) (pm_q59_1 (Nat.le_of_ble_eq_true rfl)) rfl rfl ?_
  refine pm_R_lo pm_M59 (pc' := 104) (pm_q59_1 (Nat.le_of_ble_eq_true rfl)) rfl rfl ?_
  refine pm_R_get pm_M59 (pc' := 107) (v := .ref 22) (pm_q59_1 (Nat.le_of_ble_eq_true rfl)) rfl (hh 17 (Nat.le_of_ble_eq_true rfl)) (Nat.le_of_ble_eq_true rfl) (Nat.le_of_ble_eq_true rfl) rfl rfl ?_
  refine pm_R_lo pm_M59 (pc' := 108) (pm_q59_1 (Nat.le_of_ble_eq_true rfl)) rfl rfl ?_
  refine pm_R_aald pm_M59 (pc' := 109) (v := .null) (pm_q59_1 (Nat.le_of_ble_eq_true rfl)) (hh 22 (Nat.le_of_ble_eq_true rfl)) (Nat.le_of_ble_eq_true rfl) (Nat.le_of_ble_eq_true rfl) (Nat.le_of_ble_eq_true rfl) (Nat.le_of_ble_eq_true rfl) rfl rfl rfl ?_
  refine pm_R_aastN pm_M59 (pc' := 110) (pm_q59_1 (Nat.le_of_ble_eq_true rfl)) rfl (Nat.le_of_ble_eq_true rfl) (Nat.le_of_ble_eq_true rfl) (Nat.le_of_ble_eq_true rfl) (Nat.le_of_ble_eq_true rfl) rfl rfl ?_
  refine pm_R_lo pm_M59 (pc' := 113) (ls' := [.ref 72, .ref 17, .int 1]) (st' := []) (pm_q59_1 (Nat.le_of_ble_eq_true rfl)) rfl rfl ?_
  refine pm_R_br pm_M59 (pc' := 89) (pm_q59_1 (Nat.le_of_ble_eq_true rfl)) rfl ?_
  refine pm_R_lo pm_M59 (pc' := 90) rfl rfl rfl ?_
  refine pm_R_lo pm_M59 (pc' := 91) rfl rfl rfl ?_
  refine pm_R_get pm_M59 (pc' := 94) (v := .ref 77) rfl rfl rfl (Nat.le_of_ble_eq_true rfl) (Nat.le_of_ble_eq_true rfl) rfl rfl ?_
  refine pm_R_alen pm_M59 (pc' := 95) (v := 2) rfl rfl (Nat.le_of_ble_eq_true rfl) (Nat.le_of_ble_eq_true rfl) (Nat.le_of_ble_eq_true rfl) rfl rfl ?_
  refine pm_R_br pm_M59 (pc' := 98) (st' := []) rfl rfl ?_
  refine pm_R_lo pm_M59 (pc' := 99) rfl rfl rfl ?_
  refine pm_R_get pm_M59 (pc' := 102) (v := .ref 77) rfl rfl rfl (Nat.le_of_ble_eq_true rfl) (Nat.le_of_ble_eq_true rfl) rfl rfl ?_
  refine pm_R_lo pm_M59 (pc' := 103) (pm_q59_1 (Nat.le_of_ble_eq_true rfl)) rfl rfl ?_
  refine pm_R_lo pm_M59 (pc' := 104) (pm_q59_1 (Nat.le_of_ble_eq_true rfl)) rfl rfl ?_
  refine pm_R_get pm_M59 (pc' := 107) (v := .ref 22) (pm_q59_1 (Nat.le_of_ble_eq_true rfl)) rfl (hh 17 (Nat.le_of_ble_eq_true rfl)) (Nat.le_of_ble_eq_true rfl) (Nat.le_of_ble_eq_true rfl) rfl rfl ?_
  refine pm_R_lo pm_M59 (pc' := 108) (pm_q59_1 (Nat.le_of_ble_eq_true rfl)) rfl rfl ?_
  refine pm_R_aald pm_M59 (pc' := 109) (v := .null) (pm_q59_1 (Nat.le_of_ble_eq_true rfl)) (hh 22 (Nat.le_of_ble_eq_true rfl)) (Nat.le_of_ble_eq_true rfl) (Nat.le_of_ble_eq_true rfl) (Nat.le_of_ble_eq_true rfl) (Nat.le_of_ble_eq_true rfl) rfl rfl rfl ?_
  refine pm_R_aastN pm_M59 (pc' := 110) (pm_q59_1 (Nat.le_of_ble_eq_true rfl)) rfl (Nat.le_of_ble_eq_true rfl) (Nat.le_of_ble_eq_true rfl) (Nat.le_of_ble_eq_true rfl) (Nat.le_of_ble_eq_true rfl) rfl rfl ?_
  refine pm_R_lo pm_M59 (pc' := 113) (ls' := [.ref 72, .ref 17, .int 2]) (st' := []) (pm_q59_1 (Nat.le_of_ble_eq_true rfl)) rfl rfl ?_
  refine pm_R_br pm_M59 (pc' := 89) (pm_q59_1 (Nat.le_of_ble_eq_true rfl)) rfl ?_
  refine pm_R_lo pm_M59 (pc' := 90) rfl rfl rfl ?_
  refine pm_R_lo pm_M59 (pc' := 91) rfl rfl rfl ?_
  refine pm_R_get pm_M59 (pc' := 94) (v := .ref 77) rfl rfl rfl (Nat.le_of_ble_eq_true rfl) (Nat.le_of_ble_eq_true rfl) rfl rfl ?_
  refine pm_R_alen pm_M59 (pc' := 95) (v := 2) rfl rfl (Nat.le_of_ble_eq_true rfl) (Nat.le_of_ble_eq_true rfl) (Nat.le_of_ble_eq_true rfl) rfl rfl ?_
  refine pm_R_br pm_M59 (pc' := 116) (st' := []) rfl rfl ?_
  refine pm_R_ret pm_M59 (r := none) (pm_q59_1 (Nat.le_of_ble_eq_true rfl)) rfl ?_
  show pm_R _ 58 59 [.ref 72, .ref 17] [] _ _
  refine pm_R_ret pm_M58 (r := none) rfl rfl ?_
  show pm_R _ 57 46 [.ref 16, .int 1] [] _ _
  refine pm_R_op pm_M57 (pc' := 47) (st' := [.int 1]) rfl rfl rfl ?_
  refine pm_R_ret pm_M57 (r := some (.int 1)) rfl rfl ?_
  show pm_R _ 0 2084 [.ref 0, .ref 16, .ref 41, .int 0] [.int 1] _ _
  refine pm_R_lo pm_M0 (pc' := 2085) (pm_q0_27 (Nat.le_of_ble_eq_true rfl)) rfl rfl ?_
  refine pm_R_lo pm_M0 (pc' := 2086) (pm_q0_27 (Nat.le_of_ble_eq_true rfl)) rfl rfl ?_
  refine pm_R_lo pm_M0 (pc' := 2087) (pm_q0_27 (Nat.le_of_ble_eq_true rfl)) rfl rfl ?_
  refine pm_R_op pm_M0 (pc' := 2088) (st' := [.int 1, .int 0, .ref 0, .ref 41, .int 1]) (pm_q0_27 (Nat.le_of_ble_eq_true rfl)) rfl rfl ?_
  refine pm_R_op pm_M0 (pc' := 2089) (st' := [.int 1, .ref 0, .ref 41, .int 1]) (pm_q0_27 (Nat.le_of_ble_eq_true rfl)) rfl rfl ?_
  refine pm_R_iald pm_M0 (pc' := 2090) (v := 1) (pm_q0_27 (Nat.le_of_ble_eq_true rfl)) (hh 0 (Nat.le_of_ble_eq_true rfl)) (Nat.le_of_ble_eq_true rfl) rfl hx1 rfl ?_
  refine pm_R_cv pm_M0 (pc' := 2093) (a := 41) (ra := [.int 1]) (rest := [.int 1]) (ls' := [.ref 41, .int 1]) (pm_q0_27 (Nat.le_of_ble_eq_true rfl)) rfl (Or.inl rfl) pm_M295 (hh 41 (Nat.le_of_ble_eq_true rfl)) rfl (Nat.le_of_ble_eq_true rfl) (Nat.le_of_ble_eq_true rfl) rfl rfl (Nat.le_of_ble_eq_true rfl) rfl rfl ?_
  refine pm_R_lo pm_M295 (pc' := 1) rfl rfl rfl ?_
  refine pm_R_op pm_M295 (pc' := 2) (st' := [.int 0, .ref 41]) rfl rfl rfl ?_
  refine pm_R_put pm_M295 (pc' := 5) (fs' := [.int 0, .ref 42, .ref 43, .ref 44, .ref 45, .ref 46, .ref 47, .ref 48, .ref 49, .ref 50, .int 0, .int 0, .int 0, .int 0, .int 0, .long 0, .int 0, .int 0, .int 0, .ref 51, .ref 52, .int 0, .int 0, .int 0, .int 0, .ref 53, .int 0, .int 0, .ref 54, .ref 55, .ref 56, .int 0, .ref 57, .ref 58, .ref 59, .ref 60, .ref 61, .ref 62, .ref 63, .ref 64, .ref 65, .ref 66, .int 0, .int 0, .int 0, .ref 67, .ref 68, .int 0, .ref 69, .int 0, .int 0, .ref 70, .ref 71]) rfl rfl rfl (hh 41 (Nat.le_of_ble_eq_true rfl)) (Nat.le_of_ble_eq_true rfl) (Nat.le_of_ble_eq_true rfl) (Nat.le_of_ble_eq_true rfl) rfl (Or.inl rfl) rfl rfl ?_
  refine pm_R_lo pm_M295 (pc' := 6) rfl rfl rfl ?_
  refine pm_R_op pm_M295 (pc' := 7) (st' := [.int 0, .int 1]) rfl rfl rfl ?_
  refine pm_R_op pm_M295 (pc' := 8) (st' := [.int 2, .int 0, .int 1]) rfl rfl rfl ?_
  refine pm_R_cs pm_M295 (pc' := 11) (ra := [.int 2, .int 0, .int 1]) (rest := []) (ls' := [.int 1, .int 0, .int 2]) rfl rfl (Or.inl rfl) pm_M174 rfl rfl (Nat.le_of_ble_eq_true rfl) rfl rfl ?_
  refine pm_R_lo pm_M174 (pc' := 1) rfl rfl rfl ?_
  refine pm_R_lo pm_M174 (pc' := 2) rfl rfl rfl ?_
  refine pm_R_br pm_M174 (pc' := 5) (st' := []) rfl rfl ?_
  refine pm_R_lo pm_M174 (pc' := 6) rfl rfl rfl ?_
  refine pm_R_lo pm_M174 (pc' := 7) rfl rfl rfl ?_
  refine pm_R_br pm_M174 (pc' := 10) (st' := []) rfl rfl ?_
  refine pm_R_op pm_M174 (pc' := 11) (st' := [.int 1]) rfl rfl rfl ?_
  refine pm_R_br pm_M174 (pc' := 15) rfl rfl ?_
  refine pm_R_ret pm_M174 (r := some (.int 1)) rfl rfl ?_
  show pm_R _ 295 11 [.ref 41, .int 1] [.int 1] _ _
  refine pm_R_br pm_M295 (pc' := 16) (st' := []) rfl rfl ?_
  refine pm_R_lo pm_M295 (pc' := 17) rfl rfl rfl ?_
  refine pm_R_op pm_M295 (pc' := 18) (st' := [.int 0, .ref 41]) rfl rfl rfl ?_
  refine pm_R_lo pm_M295 (pc' := 19) rfl rfl rfl ?_
  refine pm_R_op pm_M295 (pc' := 20) (st' := [.int 1, .int 1, .int 0, .ref 41]) rfl rfl rfl ?_
  refine pm_R_op pm_M295 (pc' := 21) (st' := [.int 2, .int 0, .ref 41]) rfl rfl rfl ?_
  refine pm_R_cv pm_M295 (pc' := 24) (a := 41) (ra := [.int 2, .int 0]) (rest := []) (ls' := [.ref 41, .int 0, .int 2, pm_no]) rfl rfl (Or.inl rfl) pm_M296 rfl rfl (Nat.le_of_ble_eq_true rfl) (Nat.le_of_ble_eq_true rfl) rfl rfl (Nat.le_of_ble_eq_true rfl) rfl rfl ?_
  refine pm_R_op pm_M296 (pc' := 1) (st' := [.int 0]) rfl rfl rfl ?_
  refine pm_R_lo pm_M296 (pc' := 2) (ls' := [.ref 41, .int 0, .int 2, .int 0]) (st' := []) rfl rfl rfl ?_
  refine pm_R_heq (pm_set_self (a := 42) (c := .inl (2, 2400, .inl (fun _ => 0))) (hh 42 (Nat.le_of_ble_eq_true rfl))).symm ?_
  refine p1_L4 (to := 2) rfl rfl (Nat.le_of_ble_eq_true rfl) (by decide) (fun g_1 => ?_) 600 0 _ rfl
  refine pm_R_lo pm_M296 (pc' := 40) rfl rfl rfl ?_
  refine pm_R_get pm_M296 (pc' := 43) (v := .ref 43) rfl rfl rfl (Nat.le_of_ble_eq_true rfl) (Nat.le_of_ble_eq_true rfl) rfl rfl ?_
  refine pm_R_op pm_M296 (pc' := 44) (st' := [.int 1, .ref 43]) rfl rfl rfl ?_
  refine pm_R_lo pm_M296 (pc' := 45) rfl rfl rfl ?_
  refine pm_R_lo pm_M296 (pc' := 46) rfl rfl rfl ?_
  refine pm_R_cs pm_M296 (pc' := 49) (ra := [.int 2, .int 0, .int 1, .ref 43]) (rest := []) (ls' := [.ref 43, .int 1, .int 0, .int 2, pm_no]) rfl rfl (Or.inl rfl) pm_M297 rfl rfl (Nat.le_of_ble_eq_true rfl) rfl rfl ?_
  refine pm_R_op pm_M297 (pc' := 1) (st' := [.int 0]) rfl rfl rfl ?_
  refine pm_R_lo pm_M297 (pc' := 3) (ls' := [.ref 43, .int 1, .int 0, .int 2, .int 0]) (st' := []) rfl rfl rfl ?_
  refine pm_R_heq (pm_set_self (a := 43) (c := .inl (0, 4, .inl (fun _ => 0))) (hh 43 (Nat.le_of_ble_eq_true rfl))).symm ?_
  refine p1_L3 (a := 43) (w := 1) (to := 2) (N := 4) (Nat.le_of_ble_eq_true rfl) (Nat.le_of_ble_eq_true rfl) (by decide) (by decide) (fun g_2 => ?_) 1 0 _ rfl
  show pm_R _ 296 49 [.ref 41, .int 0, .int 2, .int 600] [] _ _
  refine pm_R_lo pm_M296 (pc' := 50) rfl rfl rfl ?_
  refine pm_R_get pm_M296 (pc' := 53) (v := .ref 44) rfl rfl rfl (Nat.le_of_ble_eq_true rfl) (Nat.le_of_ble_eq_true rfl) rfl rfl ?_
  refine pm_R_op pm_M296 (pc' := 54) (st' := [.int 1, .ref 44]) rfl rfl rfl ?_
  refine pm_R_lo pm_M296 (pc' := 55) rfl rfl rfl ?_
  refine pm_R_lo pm_M296 (pc' := 56) rfl rfl rfl ?_
  refine pm_R_cs pm_M296 (pc' := 59) (ra := [.int 2, .int 0, .int 1, .ref 44]) (rest := []) (ls' := [.ref 44, .int 1, .int 0, .int 2, pm_no]) rfl rfl (Or.inl rfl) pm_M297 rfl rfl (Nat.le_of_ble_eq_true rfl) rfl rfl ?_
  refine pm_R_op pm_M297 (pc' := 1) (st' := [.int 0]) rfl rfl rfl ?_
  refine pm_R_lo pm_M297 (pc' := 3) (ls' := [.ref 44, .int 1, .int 0, .int 2, .int 0]) (st' := []) rfl rfl rfl ?_
  refine pm_R_heq (pm_set_self (a := 44) (c := .inl (0, 4, .inl (fun _ => 0))) (hh 44 (Nat.le_of_ble_eq_true rfl))).symm ?_
  refine p1_L3 (a := 44) (w := 1) (to := 2) (N := 4) (Nat.le_of_ble_eq_true rfl) (Nat.le_of_ble_eq_true rfl) (by decide) (by decide) (fun g_3 => ?_) 1 0 _ rfl
  show pm_R _ 296 59 [.ref 41, .int 0, .int 2, .int 600] [] _ _
  refine pm_R_lo pm_M296 (pc' := 60) rfl rfl rfl ?_
  refine pm_R_get pm_M296 (pc' := 63) (v := .ref 45) rfl rfl rfl (Nat.le_of_ble_eq_true rfl) (Nat.le_of_ble_eq_true rfl) rfl rfl ?_
  refine pm_R_op pm_M296 (pc' := 64) (st' := [.int 1, .ref 45]) rfl rfl rfl ?_
  refine pm_R_lo pm_M296 (pc' := 65) rfl rfl rfl ?_
  refine pm_R_lo pm_M296 (pc' := 66) rfl rfl rfl ?_
  refine pm_R_cs pm_M296 (pc' := 69) (ra := [.int 2, .int 0, .int 1, .ref 45]) (rest := []) (ls' := [.ref 45, .int 1, .int 0, .int 2, pm_no]) rfl rfl (Or.inl rfl) pm_M297 rfl rfl (Nat.le_of_ble_eq_true rfl) rfl rfl ?_
  refine pm_R_op pm_M297 (pc' := 1) (st' := [.int 0]) rfl rfl rfl ?_
  refine pm_R_lo pm_M297 (pc' := 3) (ls' := [.ref 45, .int 1, .int 0, .int 2, .int 0]) (st' := []) rfl rfl rfl ?_
  refine pm_R_heq (pm_set_self (a := 45) (c := .inl (0, 4, .inl (upd (fun _ => 0) 0 (-1)))) (hh 45 (Nat.le_of_ble_eq_true rfl))).symm ?_
  refine p1_L3 (a := 45) (w := 1) (to := 2) (N := 4) (Nat.le_of_ble_eq_true rfl) (Nat.le_of_ble_eq_true rfl) (by decide) (by decide) (fun g_4 => ?_) 1 0 _ rfl
  show pm_R _ 296 69 [.ref 41, .int 0, .int 2, .int 600] [] _ _
  refine pm_R_lo pm_M296 (pc' := 70) rfl rfl rfl ?_
  refine pm_R_get pm_M296 (pc' := 73) (v := .ref 46) rfl rfl rfl (Nat.le_of_ble_eq_true rfl) (Nat.le_of_ble_eq_true rfl) rfl rfl ?_
  refine pm_R_op pm_M296 (pc' := 74) (st' := [.int 4, .ref 46]) rfl rfl rfl ?_
  refine pm_R_lo pm_M296 (pc' := 75) rfl rfl rfl ?_
  refine pm_R_lo pm_M296 (pc' := 76) rfl rfl rfl ?_
  refine pm_R_cs pm_M296 (pc' := 79) (ra := [.int 2, .int 0, .int 4, .ref 46]) (rest := []) (ls' := [.ref 46, .int 4, .int 0, .int 2, pm_no]) rfl rfl (Or.inl rfl) pm_M297 rfl rfl (Nat.le_of_ble_eq_true rfl) rfl rfl ?_
  refine pm_R_op pm_M297 (pc' := 1) (st' := [.int 0]) rfl rfl rfl ?_
  refine pm_R_lo pm_M297 (pc' := 3) (ls' := [.ref 46, .int 4, .int 0, .int 2, .int 0]) (st' := []) rfl rfl rfl ?_
  refine pm_R_heq (pm_set_self (a := 46) (c := .inl (0, 16, .inl (fun _ => 0))) (hh 46 (Nat.le_of_ble_eq_true rfl))).symm ?_
  refine p1_L3 (a := 46) (w := 4) (to := 2) (N := 16) (Nat.le_of_ble_eq_true rfl) (Nat.le_of_ble_eq_true rfl) (by decide) (by decide) (fun g_5 => ?_) 4 0 _ rfl
  show pm_R _ 296 79 [.ref 41, .int 0, .int 2, .int 600] [] _ _
  refine pm_R_lo pm_M296 (pc' := 80) rfl rfl rfl ?_
  refine pm_R_get pm_M296 (pc' := 83) (v := .ref 47) rfl rfl rfl (Nat.le_of_ble_eq_true rfl) (Nat.le_of_ble_eq_true rfl) rfl rfl ?_
  refine pm_R_op pm_M296 (pc' := 86) (st' := [.int 200, .ref 47]) rfl rfl rfl ?_
  refine pm_R_lo pm_M296 (pc' := 87) rfl rfl rfl ?_
  refine pm_R_lo pm_M296 (pc' := 88) rfl rfl rfl ?_
  refine pm_R_cs pm_M296 (pc' := 91) (ra := [.int 2, .int 0, .int 200, .ref 47]) (rest := []) (ls' := [.ref 47, .int 200, .int 0, .int 2, pm_no]) rfl rfl (Or.inl rfl) pm_M297 rfl rfl (Nat.le_of_ble_eq_true rfl) rfl rfl ?_
  refine pm_R_op pm_M297 (pc' := 1) (st' := [.int 0]) rfl rfl rfl ?_
  refine pm_R_lo pm_M297 (pc' := 3) (ls' := [.ref 47, .int 200, .int 0, .int 2, .int 0]) (st' := []) rfl rfl rfl ?_
  refine pm_R_heq (pm_set_self (a := 47) (c := .inl (0, 800, .inl (fun _ => 0))) (hh 47 (Nat.le_of_ble_eq_true rfl))).symm ?_
  refine p1_L3 (a := 47) (w := 200) (to := 2) (N := 800) (Nat.le_of_ble_eq_true rfl) (Nat.le_of_ble_eq_true rfl) (by decide) (by decide) (fun g_6 => ?_) 200 0 _ rfl
  show pm_R _ 296 91 [.ref 41, .int 0, .int 2, .int 600] [] _ _
  refine pm_R_lo pm_M296 (pc' := 92) rfl rfl rfl ?_
  refine pm_R_get pm_M296 (pc' := 95) (v := .ref 48) rfl rfl rfl (Nat.le_of_ble_eq_true rfl) (Nat.le_of_ble_eq_true rfl) rfl rfl ?_
  refine pm_R_op pm_M296 (pc' := 97) (st' := [.int 39, .ref 48]) rfl rfl rfl ?_
  refine pm_R_lo pm_M296 (pc' := 98) rfl rfl rfl ?_
  refine pm_R_lo pm_M296 (pc' := 99) rfl rfl rfl ?_
  refine pm_R_cs pm_M296 (pc' := 102) (ra := [.int 2, .int 0, .int 39, .ref 48]) (rest := []) (ls' := [.ref 48, .int 39, .int 0, .int 2, pm_no]) rfl rfl (Or.inl rfl) pm_M297 rfl rfl (Nat.le_of_ble_eq_true rfl) rfl rfl ?_
  refine pm_R_op pm_M297 (pc' := 1) (st' := [.int 0]) rfl rfl rfl ?_
  refine pm_R_lo pm_M297 (pc' := 3) (ls' := [.ref 48, .int 39, .int 0, .int 2, .int 0]) (st' := []) rfl rfl rfl ?_
  refine pm_R_heq (pm_set_self (a := 48) (c := .inl (0, 156, .inl (fun _ => 0))) (hh 48 (Nat.le_of_ble_eq_true rfl))).symm ?_
  refine p1_L3 (a := 48) (w := 39) (to := 2) (N := 156) (Nat.le_of_ble_eq_true rfl) (Nat.le_of_ble_eq_true rfl) (by decide) (by decide) (fun g_7 => ?_) 39 0 _ rfl
  show pm_R _ 296 102 [.ref 41, .int 0, .int 2, .int 600] [] _ _
  refine pm_R_lo pm_M296 (pc' := 103) rfl rfl rfl ?_
  refine pm_R_get pm_M296 (pc' := 106) (v := .ref 49) (pm_q296_1 (Nat.le_of_ble_eq_true rfl)) rfl rfl (Nat.le_of_ble_eq_true rfl) (Nat.le_of_ble_eq_true rfl) rfl rfl ?_
  refine pm_R_op pm_M296 (pc' := 109) (st' := [.int 304, .ref 49]) (pm_q296_1 (Nat.le_of_ble_eq_true rfl)) rfl rfl ?_
  refine pm_R_lo pm_M296 (pc' := 110) (pm_q296_1 (Nat.le_of_ble_eq_true rfl)) rfl rfl ?_
  refine pm_R_lo pm_M296 (pc' := 111) (pm_q296_1 (Nat.le_of_ble_eq_true rfl)) rfl rfl ?_
  refine pm_R_cs pm_M296 (pc' := 114) (ra := [.int 2, .int 0, .int 304, .ref 49]) (rest := []) (ls' := [.ref 49, .int 304, .int 0, .int 2, pm_no]) (pm_q296_1 (Nat.le_of_ble_eq_true rfl)) rfl (Or.inl rfl) pm_M297 rfl rfl (Nat.le_of_ble_eq_true rfl) rfl rfl ?_
  refine pm_R_op pm_M297 (pc' := 1) (st' := [.int 0]) rfl rfl rfl ?_
  refine pm_R_lo pm_M297 (pc' := 3) (ls' := [.ref 49, .int 304, .int 0, .int 2, .int 0]) (st' := []) rfl rfl rfl ?_
  refine pm_R_heq (pm_set_self (a := 49) (c := .inl (0, 1216, .inl (fun _ => 0))) (hh 49 (Nat.le_of_ble_eq_true rfl))).symm ?_
  refine p1_L3 (a := 49) (w := 304) (to := 2) (N := 1216) (Nat.le_of_ble_eq_true rfl) (Nat.le_of_ble_eq_true rfl) (by decide) (by decide) (fun g_8 => ?_) 304 0 _ rfl
  show pm_R _ 296 114 [.ref 41, .int 0, .int 2, .int 600] [] _ _
  refine pm_R_lo pm_M296 (pc' := 115) (pm_q296_1 (Nat.le_of_ble_eq_true rfl)) rfl rfl ?_
  refine pm_R_get pm_M296 (pc' := 118) (v := .ref 50) (pm_q296_1 (Nat.le_of_ble_eq_true rfl)) rfl rfl (Nat.le_of_ble_eq_true rfl) (Nat.le_of_ble_eq_true rfl) rfl rfl ?_
  refine pm_R_op pm_M296 (pc' := 120) (st' := [.int 50, .ref 50]) (pm_q296_1 (Nat.le_of_ble_eq_true rfl)) rfl rfl ?_
  refine pm_R_lo pm_M296 (pc' := 121) (pm_q296_1 (Nat.le_of_ble_eq_true rfl)) rfl rfl ?_
  refine pm_R_lo pm_M296 (pc' := 122) (pm_q296_1 (Nat.le_of_ble_eq_true rfl)) rfl rfl ?_
  refine pm_R_cs pm_M296 (pc' := 125) (ra := [.int 2, .int 0, .int 50, .ref 50]) (rest := []) (ls' := [.ref 50, .int 50, .int 0, .int 2, pm_no]) (pm_q296_1 (Nat.le_of_ble_eq_true rfl)) rfl (Or.inl rfl) pm_M297 rfl rfl (Nat.le_of_ble_eq_true rfl) rfl rfl ?_
  refine pm_R_op pm_M297 (pc' := 1) (st' := [.int 0]) rfl rfl rfl ?_
  refine pm_R_lo pm_M297 (pc' := 3) (ls' := [.ref 50, .int 50, .int 0, .int 2, .int 0]) (st' := []) rfl rfl rfl ?_
  refine pm_R_heq (pm_set_self (a := 50) (c := .inl (0, 200, .inl (fun _ => 0))) (hh 50 (Nat.le_of_ble_eq_true rfl))).symm ?_
  refine p1_L3 (a := 50) (w := 50) (to := 2) (N := 200) (Nat.le_of_ble_eq_true rfl) (Nat.le_of_ble_eq_true rfl) (by decide) (by decide) (fun g_9 => ?_) 50 0 _ rfl
  show pm_R _ 296 125 [.ref 41, .int 0, .int 2, .int 600] [] _ _
  refine pm_R_ret pm_M296 (r := none) (pm_q296_1 (Nat.le_of_ble_eq_true rfl)) rfl ?_
  show pm_R _ 295 24 [.ref 41, .int 1] [] _ _
  refine pm_R_lo pm_M295 (pc' := 25) rfl rfl rfl ?_
  refine pm_R_get pm_M295 (pc' := 28) (v := .ref 71) rfl rfl rfl (Nat.le_of_ble_eq_true rfl) (Nat.le_of_ble_eq_true rfl) rfl rfl ?_
  refine pm_R_lo pm_M295 (pc' := 29) rfl rfl rfl ?_
  refine pm_R_op pm_M295 (pc' := 30) (st' := [.int 1, .int 1, .ref 71]) rfl rfl rfl ?_
  refine pm_R_zast pm_M295 (pc' := 31) rfl (hh 71 (Nat.le_of_ble_eq_true rfl)) (Nat.le_of_ble_eq_true rfl) (Nat.le_of_ble_eq_true rfl) rfl rfl ?_
  refine pm_R_op pm_M295 (pc' := 32) (st' := [.int 1]) rfl rfl rfl ?_
  refine pm_R_ret pm_M295 (r := some (.int 1)) rfl rfl ?_
  show pm_R _ 0 2093 [.ref 0, .ref 16, .ref 41, .int 0] [.int 1, .int 1] _ _
  refine pm_R_br pm_M0 (pc' := 2121) (st' := []) (pm_q0_27 (Nat.le_of_ble_eq_true rfl)) rfl ?_
  exact p1_tail (hh 0 (Nat.le_of_ble_eq_true rfl)) (Nat.le_of_ble_eq_true rfl) (Nat.le_of_ble_eq_true rfl) (Nat.le_of_ble_eq_true rfl)
set_option maxRecDepth 100000 in
set_option maxHeartbeats 40000000 in
theorem p1_c41_eq2 (xs : Nat → Int32) (f : Nat → pm_E) (hh : ∀ i, i < 72 → f i = pm_fF 7 xs i) (x0 x1 x2 x3 x4 x5 x6 : Int32) (hx0 : xs 0 = x0) (hx1 : xs 1 = x1) (hx2 : xs 2 = x2) (hx3 : xs 3 = x3) (hx4 : xs 4 = x4) (hx5 : xs 5 = x5) (hx6 : xs 6 = x6) (hv : x1 = 2) : pm_R 100 0 2075 [.ref 0, .ref 16, .ref 41, .int 0] [] (72, 52657, f) p1_Q := by
  subst hv
  refine pm_R_lo pm_M0 (pc' := 2076) (pm_q0_26 (Nat.le_of_ble_eq_true rfl)) rfl rfl ?_
  refine pm_R_lo pm_M0 (pc' := 2077) (pm_q0_26 (Nat.le_of_ble_eq_true rfl)) rfl rfl ?_
  refine pm_R_lo pm_M0 (pc' := 2078) (pm_q0_26 (Nat.le_of_ble_eq_true rfl)) rfl rfl ?_
  refine pm_R_op pm_M0 (pc' := 2079) (st' := [.int 1, .int 0, .ref 0, .ref 16]) (pm_q0_26 (Nat.le_of_ble_eq_true rfl)) rfl rfl ?_
  refine pm_R_op pm_M0 (pc' := 2080) (st' := [.int 1, .ref 0, .ref 16]) (pm_q0_26 (Nat.le_of_ble_eq_true rfl)) rfl rfl ?_
  refine pm_R_iald pm_M0 (pc' := 2081) (v := 2) (pm_q0_27 (Nat.le_of_ble_eq_true rfl)) (hh 0 (Nat.le_of_ble_eq_true rfl)) (Nat.le_of_ble_eq_true rfl) rfl hx1 rfl ?_
  refine pm_R_cv pm_M0 (pc' := 2084) (a := 16) (ra := [.int 2]) (rest := []) (ls' := [.ref 16, .int 2]) (pm_q0_27 (Nat.le_of_ble_eq_true rfl)) rfl (Or.inl rfl) pm_M57 (hh 16 (Nat.le_of_ble_eq_true rfl)) rfl (Nat.le_of_ble_eq_true rfl) (Nat.le_of_ble_eq_true rfl) rfl rfl (Nat.le_of_ble_eq_true rfl) rfl rfl ?_
  refine pm_R_lo pm_M57 (pc' := 1) rfl rfl rfl ?_
  refine pm_R_br pm_M57 (pc' := 4) (st' := []) rfl rfl ?_
  refine pm_R_lo pm_M57 (pc' := 5) rfl rfl rfl ?_
  refine pm_R_op pm_M57 (pc' := 6) (st' := [.int 3, .int 2]) rfl rfl rfl ?_
  refine pm_R_br pm_M57 (pc' := 11) (st' := []) rfl rfl ?_
  refine pm_R_lo pm_M57 (pc' := 12) rfl rfl rfl ?_
  refine pm_R_get pm_M57 (pc' := 15) (v := .ref 24) rfl rfl (hh 16 (Nat.le_of_ble_eq_true rfl)) (Nat.le_of_ble_eq_true rfl) (Nat.le_of_ble_eq_true rfl) rfl rfl ?_
  refine pm_R_lo pm_M57 (pc' := 16) rfl rfl rfl ?_
  refine pm_R_aald pm_M57 (pc' := 17) (v := .null) rfl (hh 24 (Nat.le_of_ble_eq_true rfl)) (Nat.le_of_ble_eq_true rfl) (Nat.le_of_ble_eq_true rfl) (Nat.le_of_ble_eq_true rfl) (Nat.le_of_ble_eq_true rfl) rfl rfl rfl ?_
  refine pm_R_br pm_M57 (pc' := 20) rfl rfl ?_
  refine pm_R_lo pm_M57 (pc' := 21) rfl rfl rfl ?_
  refine pm_R_get pm_M57 (pc' := 24) (v := .ref 24) rfl rfl (hh 16 (Nat.le_of_ble_eq_true rfl)) (Nat.le_of_ble_eq_true rfl) (Nat.le_of_ble_eq_true rfl) rfl rfl ?_
  refine pm_R_lo pm_M57 (pc' := 25) rfl rfl rfl ?_
  refine pm_R_new pm_M57 (pc' := 28) (fs := [.null, .int 0, .int 0, .int 0, .null, .null, .null, .null, .null]) rfl rfl rfl rfl rfl ?_
  show pm_R _ 57 28 [.ref 16, .int 2] [.ref 72, .int 2, .ref 24] _ _
  refine pm_R_op pm_M57 (pc' := 29) (st' := [.ref 72, .ref 72, .int 2, .ref 24]) rfl rfl rfl ?_
  refine pm_R_ci pm_M57 (pc' := 32) (a := 72) (ra := []) (rest := [.ref 72, .int 2, .ref 24]) (ls' := [.ref 72]) rfl rfl (Or.inr rfl) pm_M2 rfl rfl (Nat.le_of_ble_eq_true rfl) rfl rfl ?_
  refine pm_R_lo pm_M2 (pc' := 1) rfl rfl rfl ?_
  refine pm_R_obj pm_M2 (pc' := 4) rfl rfl rfl (Nat.le_of_ble_eq_true rfl) rfl ?_
  refine pm_R_lo pm_M2 (pc' := 5) rfl rfl rfl ?_
  refine pm_R_op pm_M2 (pc' := 8) (st' := [.int 600, .ref 72]) rfl rfl rfl ?_
  refine pm_R_newa pm_M2 (pc' := 10) (N := 600) rfl rfl (by decide) rfl (Nat.le_of_ble_eq_true rfl) rfl ?_
  show pm_R _ 2 10 [.ref 72] [.ref 73, .ref 72] _ _
  refine pm_R_put pm_M2 (pc' := 13) (fs' := [.ref 73, .int 0, .int 0, .int 0, .null, .null, .null, .null, .null]) rfl rfl rfl rfl (Nat.le_of_ble_eq_true rfl) (Nat.le_of_ble_eq_true rfl) (Nat.le_of_ble_eq_true rfl) rfl (Or.inr ⟨pm_N2_ini, rfl, rfl⟩) rfl rfl ?_
  refine pm_R_lo pm_M2 (pc' := 14) rfl rfl rfl ?_
  refine pm_R_op pm_M2 (pc' := 15) (st' := [.int 0, .ref 72]) rfl rfl rfl ?_
  refine pm_R_put pm_M2 (pc' := 18) (fs' := [.ref 73, .int 0, .int 0, .int 0, .null, .null, .null, .null, .null]) rfl rfl rfl rfl (Nat.le_of_ble_eq_true rfl) (Nat.le_of_ble_eq_true rfl) (Nat.le_of_ble_eq_true rfl) rfl (Or.inl rfl) rfl rfl ?_
  refine pm_R_lo pm_M2 (pc' := 19) rfl rfl rfl ?_
  refine pm_R_op pm_M2 (pc' := 20) (st' := [.int 0, .ref 72]) rfl rfl rfl ?_
  refine pm_R_put pm_M2 (pc' := 23) (fs' := [.ref 73, .int 0, .int 0, .int 0, .null, .null, .null, .null, .null]) rfl rfl rfl rfl (Nat.le_of_ble_eq_true rfl) (Nat.le_of_ble_eq_true rfl) (Nat.le_of_ble_eq_true rfl) rfl (Or.inl rfl) rfl rfl ?_
  refine pm_R_lo pm_M2 (pc' := 24) rfl rfl rfl ?_
  refine pm_R_op pm_M2 (pc' := 25) (st' := [.int (-1), .ref 72]) rfl rfl rfl ?_
  refine pm_R_put pm_M2 (pc' := 28) (fs' := [.ref 73, .int 0, .int 0, .int (-1), .null, .null, .null, .null, .null]) rfl rfl rfl rfl (Nat.le_of_ble_eq_true rfl) (Nat.le_of_ble_eq_true rfl) (Nat.le_of_ble_eq_true rfl) rfl (Or.inl rfl) rfl rfl ?_
  refine pm_R_lo pm_M2 (pc' := 29) rfl rfl rfl ?_
  refine pm_R_stat pm_M2 (pc' := 32) rfl rfl rfl ?_
  refine pm_R_op pm_M2 (pc' := 33) (st' := [.int 0, .ref 1, .ref 72]) rfl rfl rfl ?_
  refine pm_R_iald pm_M2 (pc' := 34) (v := 2) rfl (hh 1 (Nat.le_of_ble_eq_true rfl)) (Nat.le_of_ble_eq_true rfl) rfl rfl rfl ?_
  refine pm_R_newq pm_M2 (pc' := 37) (N := 2) rfl rfl rfl (by decide) rfl (Nat.le_of_ble_eq_true rfl) rfl ?_
  show pm_R _ 2 37 [.ref 72] [.ref 74, .ref 72] _ _
  refine pm_R_put pm_M2 (pc' := 40) (fs' := [.ref 73, .int 0, .int 0, .int (-1), .ref 74, .null, .null, .null, .null]) rfl rfl rfl rfl (Nat.le_of_ble_eq_true rfl) (Nat.le_of_ble_eq_true rfl) (Nat.le_of_ble_eq_true rfl) rfl (Or.inr ⟨pm_N2_ini, rfl, rfl⟩) rfl rfl ?_
  refine pm_R_lo pm_M2 (pc' := 41) rfl rfl rfl ?_
  refine pm_R_stat pm_M2 (pc' := 44) rfl rfl rfl ?_
  refine pm_R_op pm_M2 (pc' := 45) (st' := [.int 1, .ref 1, .ref 72]) rfl rfl rfl ?_
  refine pm_R_iald pm_M2 (pc' := 46) (v := 3) rfl (hh 1 (Nat.le_of_ble_eq_true rfl)) (Nat.le_of_ble_eq_true rfl) rfl rfl rfl ?_
  refine pm_R_newq pm_M2 (pc' := 49) (N := 3) rfl rfl rfl (by decide) rfl (Nat.le_of_ble_eq_true rfl) rfl ?_
  show pm_R _ 2 49 [.ref 72] [.ref 75, .ref 72] _ _
  refine pm_R_put pm_M2 (pc' := 52) (fs' := [.ref 73, .int 0, .int 0, .int (-1), .ref 74, .ref 75, .null, .null, .null]) rfl rfl rfl rfl (Nat.le_of_ble_eq_true rfl) (Nat.le_of_ble_eq_true rfl) (Nat.le_of_ble_eq_true rfl) rfl (Or.inr ⟨pm_N2_ini, rfl, rfl⟩) rfl rfl ?_
  refine pm_R_lo pm_M2 (pc' := 53) rfl rfl rfl ?_
  refine pm_R_stat pm_M2 (pc' := 56) rfl rfl rfl ?_
  refine pm_R_op pm_M2 (pc' := 57) (st' := [.int 2, .ref 1, .ref 72]) rfl rfl rfl ?_
  refine pm_R_iald pm_M2 (pc' := 58) (v := 2) rfl (hh 1 (Nat.le_of_ble_eq_true rfl)) (Nat.le_of_ble_eq_true rfl) rfl rfl rfl ?_
  refine pm_R_newq pm_M2 (pc' := 61) (N := 2) rfl rfl rfl (by decide) rfl (Nat.le_of_ble_eq_true rfl) rfl ?_
  show pm_R _ 2 61 [.ref 72] [.ref 76, .ref 72] _ _
  refine pm_R_put pm_M2 (pc' := 64) (fs' := [.ref 73, .int 0, .int 0, .int (-1), .ref 74, .ref 75, .ref 76, .null, .null]) rfl rfl rfl rfl (Nat.le_of_ble_eq_true rfl) (Nat.le_of_ble_eq_true rfl) (Nat.le_of_ble_eq_true rfl) rfl (Or.inr ⟨pm_N2_ini, rfl, rfl⟩) rfl rfl ?_
  refine pm_R_lo pm_M2 (pc' := 65) rfl rfl rfl ?_
  refine pm_R_stat pm_M2 (pc' := 68) rfl rfl rfl ?_
  refine pm_R_op pm_M2 (pc' := 69) (st' := [.int 3, .ref 1, .ref 72]) rfl rfl rfl ?_
  refine pm_R_iald pm_M2 (pc' := 70) (v := 2) rfl (hh 1 (Nat.le_of_ble_eq_true rfl)) (Nat.le_of_ble_eq_true rfl) rfl rfl rfl ?_
  refine pm_R_newq pm_M2 (pc' := 73) (N := 2) rfl rfl rfl (by decide) rfl (Nat.le_of_ble_eq_true rfl) rfl ?_
  show pm_R _ 2 73 [.ref 72] [.ref 77, .ref 72] _ _
  refine pm_R_put pm_M2 (pc' := 76) (fs' := [.ref 73, .int 0, .int 0, .int (-1), .ref 74, .ref 75, .ref 76, .ref 77, .null]) rfl rfl rfl rfl (Nat.le_of_ble_eq_true rfl) (Nat.le_of_ble_eq_true rfl) (Nat.le_of_ble_eq_true rfl) rfl (Or.inr ⟨pm_N2_ini, rfl, rfl⟩) rfl rfl ?_
  refine pm_R_lo pm_M2 (pc' := 77) rfl rfl rfl ?_
  refine pm_R_op pm_M2 (pc' := 78) (st' := [.int 4, .ref 72]) rfl rfl rfl ?_
  refine pm_R_newa pm_M2 (pc' := 80) (N := 4) rfl rfl (by decide) rfl (Nat.le_of_ble_eq_true rfl) rfl ?_
  show pm_R _ 2 80 [.ref 72] [.ref 78, .ref 72] _ _
  refine pm_R_put pm_M2 (pc' := 83) (fs' := [.ref 73, .int 0, .int 0, .int (-1), .ref 74, .ref 75, .ref 76, .ref 77, .ref 78]) rfl rfl rfl rfl (Nat.le_of_ble_eq_true rfl) (Nat.le_of_ble_eq_true rfl) (Nat.le_of_ble_eq_true rfl) rfl (Or.inr ⟨pm_N2_ini, rfl, rfl⟩) rfl rfl ?_
  refine pm_R_ret pm_M2 (r := none) rfl rfl ?_
  show pm_R _ 57 32 [.ref 16, .int 2] [.ref 72, .int 2, .ref 24] _ _
  refine pm_R_aast pm_M57 (pc' := 33) rfl (hh 24 (Nat.le_of_ble_eq_true rfl)) rfl rfl (Nat.le_of_ble_eq_true rfl) (Nat.le_of_ble_eq_true rfl) (Nat.le_of_ble_eq_true rfl) (Nat.le_of_ble_eq_true rfl) rfl rfl ?_
  refine pm_R_lo pm_M57 (pc' := 34) rfl rfl rfl ?_
  refine pm_R_get pm_M57 (pc' := 37) (v := .ref 24) rfl rfl (hh 16 (Nat.le_of_ble_eq_true rfl)) (Nat.le_of_ble_eq_true rfl) (Nat.le_of_ble_eq_true rfl) rfl rfl ?_
  refine pm_R_lo pm_M57 (pc' := 38) rfl rfl rfl ?_
  refine pm_R_aald pm_M57 (pc' := 39) (v := .ref 72) rfl rfl (Nat.le_of_ble_eq_true rfl) (Nat.le_of_ble_eq_true rfl) (Nat.le_of_ble_eq_true rfl) (Nat.le_of_ble_eq_true rfl) rfl rfl rfl ?_
  refine pm_R_lo pm_M57 (pc' := 40) rfl rfl rfl ?_
  refine pm_R_get pm_M57 (pc' := 43) (v := .ref 17) rfl rfl (hh 16 (Nat.le_of_ble_eq_true rfl)) (Nat.le_of_ble_eq_true rfl) (Nat.le_of_ble_eq_true rfl) rfl rfl ?_
  refine pm_R_cv pm_M57 (pc' := 46) (a := 72) (ra := [.ref 17]) (rest := []) (ls' := [.ref 72, .ref 17]) rfl rfl (Or.inl rfl) pm_M58 rfl rfl (Nat.le_of_ble_eq_true rfl) (Nat.le_of_ble_eq_true rfl) rfl rfl (Nat.le_of_ble_eq_true rfl) rfl rfl ?_
  refine pm_R_lo pm_M58 (pc' := 1) rfl rfl rfl ?_
  refine pm_R_get pm_M58 (pc' := 4) (v := .ref 18) rfl rfl (hh 17 (Nat.le_of_ble_eq_true rfl)) (Nat.le_of_ble_eq_true rfl) (Nat.le_of_ble_eq_true rfl) rfl rfl ?_
  refine pm_R_op pm_M58 (pc' := 5) (st' := [.int 0, .ref 18]) rfl rfl rfl ?_
  refine pm_R_lo pm_M58 (pc' := 6) rfl rfl rfl ?_
  refine pm_R_get pm_M58 (pc' := 9) (v := .ref 73) rfl rfl rfl (Nat.le_of_ble_eq_true rfl) (Nat.le_of_ble_eq_true rfl) rfl rfl ?_
  refine pm_R_op pm_M58 (pc' := 10) (st' := [.int 0, .ref 73, .int 0, .ref 18]) rfl rfl rfl ?_
  refine pm_R_op pm_M58 (pc' := 13) (st' := [.int 600, .int 0, .ref 73, .int 0, .ref 18]) rfl rfl rfl ?_
  refine pm_R_acp pm_M58 (pc' := 16) (S := 0) (D := 0) (N := 600) rfl rfl rfl (hh 18 (Nat.le_of_ble_eq_true rfl)) rfl (Or.inr rfl) (Nat.le_of_ble_eq_true rfl) (Nat.le_of_ble_eq_true rfl) (Nat.le_of_ble_eq_true rfl) (Nat.le_of_ble_eq_true rfl) rfl rfl rfl (by decide) (by decide) (by decide) (Nat.le_of_ble_eq_true rfl) (Nat.le_of_ble_eq_true rfl) (Nat.le_of_ble_eq_true rfl) rfl ?_
  refine pm_R_lo pm_M58 (pc' := 17) rfl rfl rfl ?_
  refine pm_R_lo pm_M58 (pc' := 18) rfl rfl rfl ?_
  refine pm_R_get pm_M58 (pc' := 21) (v := .int 0) rfl rfl (hh 17 (Nat.le_of_ble_eq_true rfl)) (Nat.le_of_ble_eq_true rfl) (Nat.le_of_ble_eq_true rfl) rfl rfl ?_
  refine pm_R_put pm_M58 (pc' := 24) (fs' := [.ref 73, .int 0, .int 0, .int (-1), .ref 74, .ref 75, .ref 76, .ref 77, .ref 78]) rfl rfl rfl rfl (Nat.le_of_ble_eq_true rfl) (Nat.le_of_ble_eq_true rfl) (Nat.le_of_ble_eq_true rfl) rfl (Or.inl rfl) rfl rfl ?_
  refine pm_R_lo pm_M58 (pc' := 25) rfl rfl rfl ?_
  refine pm_R_lo pm_M58 (pc' := 26) rfl rfl rfl ?_
  refine pm_R_get pm_M58 (pc' := 29) (v := .int 0) rfl rfl (hh 17 (Nat.le_of_ble_eq_true rfl)) (Nat.le_of_ble_eq_true rfl) (Nat.le_of_ble_eq_true rfl) rfl rfl ?_
  refine pm_R_put pm_M58 (pc' := 32) (fs' := [.ref 73, .int 0, .int 0, .int (-1), .ref 74, .ref 75, .ref 76, .ref 77, .ref 78]) rfl rfl rfl rfl (Nat.le_of_ble_eq_true rfl) (Nat.le_of_ble_eq_true rfl) (Nat.le_of_ble_eq_true rfl) rfl (Or.inl rfl) rfl rfl ?_
  refine pm_R_lo pm_M58 (pc' := 33) rfl rfl rfl ?_
  refine pm_R_lo pm_M58 (pc' := 34) rfl rfl rfl ?_
  refine pm_R_get pm_M58 (pc' := 37) (v := .int (-1)) rfl rfl (hh 17 (Nat.le_of_ble_eq_true rfl)) (Nat.le_of_ble_eq_true rfl) (Nat.le_of_ble_eq_true rfl) rfl rfl ?_
  refine pm_R_put pm_M58 (pc' := 40) (fs' := [.ref 73, .int 0, .int 0, .int (-1), .ref 74, .ref 75, .ref 76, .ref 77, .ref 78]) rfl rfl rfl rfl (Nat.le_of_ble_eq_true rfl) (Nat.le_of_ble_eq_true rfl) (Nat.le_of_ble_eq_true rfl) rfl (Or.inl rfl) rfl rfl ?_
  refine pm_R_lo pm_M58 (pc' := 41) rfl rfl rfl ?_
  refine pm_R_get pm_M58 (pc' := 44) (v := .ref 23) rfl rfl (hh 17 (Nat.le_of_ble_eq_true rfl)) (Nat.le_of_ble_eq_true rfl) (Nat.le_of_ble_eq_true rfl) rfl rfl ?_
  refine pm_R_op pm_M58 (pc' := 45) (st' := [.int 0, .ref 23]) rfl rfl rfl ?_
  refine pm_R_lo pm_M58 (pc' := 46) rfl rfl rfl ?_
  refine pm_R_get pm_M58 (pc' := 49) (v := .ref 78) rfl rfl rfl (Nat.le_of_ble_eq_true rfl) (Nat.le_of_ble_eq_true rfl) rfl rfl ?_
  refine pm_R_op pm_M58 (pc' := 50) (st' := [.int 0, .ref 78, .int 0, .ref 23]) rfl rfl rfl ?_
  refine pm_R_op pm_M58 (pc' := 51) (st' := [.int 4, .int 0, .ref 78, .int 0, .ref 23]) rfl rfl rfl ?_
  refine pm_R_acp pm_M58 (pc' := 54) (S := 0) (D := 0) (N := 4) rfl rfl rfl (hh 23 (Nat.le_of_ble_eq_true rfl)) rfl (Or.inl rfl) (Nat.le_of_ble_eq_true rfl) (Nat.le_of_ble_eq_true rfl) (Nat.le_of_ble_eq_true rfl) (Nat.le_of_ble_eq_true rfl) rfl rfl rfl (by decide) (by decide) (by decide) (Nat.le_of_ble_eq_true rfl) (Nat.le_of_ble_eq_true rfl) (Nat.le_of_ble_eq_true rfl) rfl ?_
  refine pm_R_lo pm_M58 (pc' := 55) rfl rfl rfl ?_
  refine pm_R_lo pm_M58 (pc' := 56) rfl rfl rfl ?_
  refine pm_R_cv pm_M58 (pc' := 59) (a := 72) (ra := [.ref 17]) (rest := []) (ls' := [.ref 72, .ref 17, pm_no]) rfl rfl (Or.inl rfl) pm_M59 rfl rfl (Nat.le_of_ble_eq_true rfl) (Nat.le_of_ble_eq_true rfl) rfl rfl (Nat.le_of_ble_eq_true rfl) rfl rfl ?_
  refine pm_R_op pm_M59 (pc' := 1) (st' := [.int 0]) rfl rfl rfl ?_
  refine pm_R_lo pm_M59 (pc' := 2) (ls' := [.ref 72, .ref 17, .int 0]) (st' := []) rfl rfl rfl ?_
  refine pm_R_lo pm_M59 (pc' := 3) rfl rfl rfl ?_
  refine pm_R_lo pm_M59 (pc' := 4) rfl rfl rfl ?_
  refine pm_R_get pm_M59 (pc' := 7) (v := .ref 74) rfl rfl rfl (Nat.le_of_ble_eq_true rfl) (Nat.le_of_ble_eq_true rfl) rfl rfl ?_
  refine pm_R_alen pm_M59 (pc' := 8) (v := 2) rfl rfl (Nat.le_of_ble_eq_true rfl) (Nat.le_of_ble_eq_true rfl) (Nat.le_of_ble_eq_true rfl) rfl rfl ?_
  refine pm_R_br pm_M59 (pc' := 11) (st' := []) rfl rfl ?_
  refine pm_R_lo pm_M59 (pc' := 12) rfl rfl rfl ?_
  refine pm_R_get pm_M59 (pc' := 15) (v := .ref 74) rfl rfl rfl (Nat.le_of_ble_eq_true rfl) (Nat.le_of_ble_eq_true rfl) rfl rfl ?_
  refine pm_R_lo pm_M59 (pc' := 16) rfl rfl rfl ?_
  refine pm_R_lo pm_M59 (pc' := 17) rfl rfl rfl ?_
  refine pm_R_get pm_M59 (pc' := 20) (v := .ref 19) rfl rfl (hh 17 (Nat.le_of_ble_eq_true rfl)) (Nat.le_of_ble_eq_true rfl) (Nat.le_of_ble_eq_true rfl) rfl rfl ?_
  refine pm_R_lo pm_M59 (pc' := 21) rfl rfl rfl ?_
  refine pm_R_aald pm_M59 (pc' := 22) (v := .null) rfl (hh 19 (Nat.le_of_ble_eq_true rfl)) (Nat.le_of_ble_eq_true rfl) (Nat.le_of_ble_eq_true rfl) (Nat.le_of_ble_eq_true rfl) (Nat.le_of_ble_eq_true rfl) rfl rfl rfl ?_
  refine pm_R_aastN pm_M59 (pc' := 23) rfl rfl (Nat.le_of_ble_eq_true rfl) (Nat.le_of_ble_eq_true rfl) (Nat.le_of_ble_eq_true rfl) (Nat.le_of_ble_eq_true rfl) rfl rfl ?_
  refine pm_R_lo pm_M59 (pc' := 26) (ls' := [.ref 72, .ref 17, .int 1]) (st' := []) rfl rfl rfl ?_
  refine pm_R_br pm_M59 (pc' := 2) rfl rfl ?_
  refine pm_R_lo pm_M59 (pc' := 3) rfl rfl rfl ?_
  refine pm_R_lo pm_M59 (pc' := 4) rfl rfl rfl ?_
  refine pm_R_get pm_M59 (pc' := 7) (v := .ref 74) rfl rfl rfl (Nat.le_of_ble_eq_true rfl) (Nat.le_of_ble_eq_true rfl) rfl rfl ?_
  refine pm_R_alen pm_M59 (pc' := 8) (v := 2) rfl rfl (Nat.le_of_ble_eq_true rfl) (Nat.le_of_ble_eq_true rfl) (Nat.le_of_ble_eq_true rfl) rfl rfl ?_
  refine pm_R_br pm_M59 (pc' := 11) (st' := []) rfl rfl ?_
  refine pm_R_lo pm_M59 (pc' := 12) rfl rfl rfl ?_
  refine pm_R_get pm_M59 (pc' := 15) (v := .ref 74) rfl rfl rfl (Nat.le_of_ble_eq_true rfl) (Nat.le_of_ble_eq_true rfl) rfl rfl ?_
  refine pm_R_lo pm_M59 (pc' := 16) rfl rfl rfl ?_
  refine pm_R_lo pm_M59 (pc' := 17) rfl rfl rfl ?_
  refine pm_R_get pm_M59 (pc' := 20) (v := .ref 19) rfl rfl (hh 17 (Nat.le_of_ble_eq_true rfl)) (Nat.le_of_ble_eq_true rfl) (Nat.le_of_ble_eq_true rfl) rfl rfl ?_
  refine pm_R_lo pm_M59 (pc' := 21) rfl rfl rfl ?_
  refine pm_R_aald pm_M59 (pc' := 22) (v := .null) rfl (hh 19 (Nat.le_of_ble_eq_true rfl)) (Nat.le_of_ble_eq_true rfl) (Nat.le_of_ble_eq_true rfl) (Nat.le_of_ble_eq_true rfl) (Nat.le_of_ble_eq_true rfl) rfl rfl rfl ?_
  refine pm_R_aastN pm_M59 (pc' := 23) rfl rfl (Nat.le_of_ble_eq_true rfl) (Nat.le_of_ble_eq_true rfl) (Nat.le_of_ble_eq_true rfl) (Nat.le_of_ble_eq_true rfl) rfl rfl ?_
  refine pm_R_lo pm_M59 (pc' := 26) (ls' := [.ref 72, .ref 17, .int 2]) (st' := []) rfl rfl rfl ?_
  refine pm_R_br pm_M59 (pc' := 2) rfl rfl ?_
  refine pm_R_lo pm_M59 (pc' := 3) rfl rfl rfl ?_
  refine pm_R_lo pm_M59 (pc' := 4) rfl rfl rfl ?_
  refine pm_R_get pm_M59 (pc' := 7) (v := .ref 74) rfl rfl rfl (Nat.le_of_ble_eq_true rfl) (Nat.le_of_ble_eq_true rfl) rfl rfl ?_
  refine pm_R_alen pm_M59 (pc' := 8) (v := 2) rfl rfl (Nat.le_of_ble_eq_true rfl) (Nat.le_of_ble_eq_true rfl) (Nat.le_of_ble_eq_true rfl) rfl rfl ?_
  refine pm_R_br pm_M59 (pc' := 29) (st' := []) rfl rfl ?_
  refine pm_R_op pm_M59 (pc' := 30) (st' := [.int 0]) rfl rfl rfl ?_
  refine pm_R_lo pm_M59 (pc' := 31) (ls' := [.ref 72, .ref 17, .int 0]) (st' := []) rfl rfl rfl ?_
  refine pm_R_lo pm_M59 (pc' := 32) rfl rfl rfl ?_
  refine pm_R_lo pm_M59 (pc' := 33) rfl rfl rfl ?_
  refine pm_R_get pm_M59 (pc' := 36) (v := .ref 75) rfl rfl rfl (Nat.le_of_ble_eq_true rfl) (Nat.le_of_ble_eq_true rfl) rfl rfl ?_
  refine pm_R_alen pm_M59 (pc' := 37) (v := 3) rfl rfl (Nat.le_of_ble_eq_true rfl) (Nat.le_of_ble_eq_true rfl) (Nat.le_of_ble_eq_true rfl) rfl rfl ?_
  refine pm_R_br pm_M59 (pc' := 40) (st' := []) rfl rfl ?_
  refine pm_R_lo pm_M59 (pc' := 41) rfl rfl rfl ?_
  refine pm_R_get pm_M59 (pc' := 44) (v := .ref 75) rfl rfl rfl (Nat.le_of_ble_eq_true rfl) (Nat.le_of_ble_eq_true rfl) rfl rfl ?_
  refine pm_R_lo pm_M59 (pc' := 45) rfl rfl rfl ?_
  refine pm_R_lo pm_M59 (pc' := 46) rfl rfl rfl ?_
  refine pm_R_get pm_M59 (pc' := 49) (v := .ref 20) rfl rfl (hh 17 (Nat.le_of_ble_eq_true rfl)) (Nat.le_of_ble_eq_true rfl) (Nat.le_of_ble_eq_true rfl) rfl rfl ?_
  refine pm_R_lo pm_M59 (pc' := 50) rfl rfl rfl ?_
  refine pm_R_aald pm_M59 (pc' := 51) (v := .null) rfl (hh 20 (Nat.le_of_ble_eq_true rfl)) (Nat.le_of_ble_eq_true rfl) (Nat.le_of_ble_eq_true rfl) (Nat.le_of_ble_eq_true rfl) (Nat.le_of_ble_eq_true rfl) rfl rfl rfl ?_
  refine pm_R_aastN pm_M59 (pc' := 52) rfl rfl (Nat.le_of_ble_eq_true rfl) (Nat.le_of_ble_eq_true rfl) (Nat.le_of_ble_eq_true rfl) (Nat.le_of_ble_eq_true rfl) rfl rfl ?_
  refine pm_R_lo pm_M59 (pc' := 55) (ls' := [.ref 72, .ref 17, .int 1]) (st' := []) rfl rfl rfl ?_
  refine pm_R_br pm_M59 (pc' := 31) rfl rfl ?_
  refine pm_R_lo pm_M59 (pc' := 32) rfl rfl rfl ?_
  refine pm_R_lo pm_M59 (pc' := 33) rfl rfl rfl ?_
  refine pm_R_get pm_M59 (pc' := 36) (v := .ref 75) rfl rfl rfl (Nat.le_of_ble_eq_true rfl) (Nat.le_of_ble_eq_true rfl) rfl rfl ?_
  refine pm_R_alen pm_M59 (pc' := 37) (v := 3) rfl rfl (Nat.le_of_ble_eq_true rfl) (Nat.le_of_ble_eq_true rfl) (Nat.le_of_ble_eq_true rfl) rfl rfl ?_
  refine pm_R_br pm_M59 (pc' := 40) (st' := []) rfl rfl ?_
  refine pm_R_lo pm_M59 (pc' := 41) rfl rfl rfl ?_
  refine pm_R_get pm_M59 (pc' := 44) (v := .ref 75) rfl rfl rfl (Nat.le_of_ble_eq_true rfl) (Nat.le_of_ble_eq_true rfl) rfl rfl ?_
  refine pm_R_lo pm_M59 (pc' := 45) rfl rfl rfl ?_
  refine pm_R_lo pm_M59 (pc' := 46) rfl rfl rfl ?_
  refine pm_R_get pm_M59 (pc' := 49) (v := .ref 20) rfl rfl (hh 17 (Nat.le_of_ble_eq_true rfl)) (Nat.le_of_ble_eq_true rfl) (Nat.le_of_ble_eq_true rfl) rfl rfl ?_
  refine pm_R_lo pm_M59 (pc' := 50) rfl rfl rfl ?_
  refine pm_R_aald pm_M59 (pc' := 51) (v := .null) rfl (hh 20 (Nat.le_of_ble_eq_true rfl)) (Nat.le_of_ble_eq_true rfl) (Nat.le_of_ble_eq_true rfl) (Nat.le_of_ble_eq_true rfl) (Nat.le_of_ble_eq_true rfl) rfl rfl rfl ?_
  refine pm_R_aastN pm_M59 (pc' := 52) rfl rfl (Nat.le_of_ble_eq_true rfl) (Nat.le_of_ble_eq_true rfl) (Nat.le_of_ble_eq_true rfl) (Nat.le_of_ble_eq_true rfl) rfl rfl ?_
  refine pm_R_lo pm_M59 (pc' := 55) (ls' := [.ref 72, .ref 17, .int 2]) (st' := []) rfl rfl rfl ?_
  refine pm_R_br pm_M59 (pc' := 31) rfl rfl ?_
  refine pm_R_lo pm_M59 (pc' := 32) rfl rfl rfl ?_
  refine pm_R_lo pm_M59 (pc' := 33) rfl rfl rfl ?_
  refine pm_R_get pm_M59 (pc' := 36) (v := .ref 75) rfl rfl rfl (Nat.le_of_ble_eq_true rfl) (Nat.le_of_ble_eq_true rfl) rfl rfl ?_
  refine pm_R_alen pm_M59 (pc' := 37) (v := 3) rfl rfl (Nat.le_of_ble_eq_true rfl) (Nat.le_of_ble_eq_true rfl) (Nat.le_of_ble_eq_true rfl) rfl rfl ?_
  refine pm_R_br pm_M59 (pc' := 40) (st' := []) rfl rfl ?_
  refine pm_R_lo pm_M59 (pc' := 41) rfl rfl rfl ?_
  refine pm_R_get pm_M59 (pc' := 44) (v := .ref 75) rfl rfl rfl (Nat.le_of_ble_eq_true rfl) (Nat.le_of_ble_eq_true rfl) rfl rfl ?_
  refine pm_R_lo pm_M59 (pc' := 45) rfl rfl rfl ?_
  refine pm_R_lo pm_M59 (pc' := 46) rfl rfl rfl ?_
  refine pm_R_get pm_M59 (pc' := 49) (v := .ref 20) rfl rfl (hh 17 (Nat.le_of_ble_eq_true rfl)) (Nat.le_of_ble_eq_true rfl) (Nat.le_of_ble_eq_true rfl) rfl rfl ?_
  refine pm_R_lo pm_M59 (pc' := 50) rfl rfl rfl ?_
  refine pm_R_aald pm_M59 (pc' := 51) (v := .null) rfl (hh 20 (Nat.le_of_ble_eq_true rfl)) (Nat.le_of_ble_eq_true rfl) (Nat.le_of_ble_eq_true rfl) (Nat.le_of_ble_eq_true rfl) (Nat.le_of_ble_eq_true rfl) rfl rfl rfl ?_
  refine pm_R_aastN pm_M59 (pc' := 52) rfl rfl (Nat.le_of_ble_eq_true rfl) (Nat.le_of_ble_eq_true rfl) (Nat.le_of_ble_eq_true rfl) (Nat.le_of_ble_eq_true rfl) rfl rfl ?_
  refine pm_R_lo pm_M59 (pc' := 55) (ls' := [.ref 72, .ref 17, .int 3]) (st' := []) rfl rfl rfl ?_
  refine pm_R_br pm_M59 (pc' := 31) rfl rfl ?_
  refine pm_R_lo pm_M59 (pc' := 32) rfl rfl rfl ?_
  refine pm_R_lo pm_M59 (pc' := 33) rfl rfl rfl ?_
  refine pm_R_get pm_M59 (pc' := 36) (v := .ref 75) rfl rfl rfl (Nat.le_of_ble_eq_true rfl) (Nat.le_of_ble_eq_true rfl) rfl rfl ?_
  refine pm_R_alen pm_M59 (pc' := 37) (v := 3) rfl rfl (Nat.le_of_ble_eq_true rfl) (Nat.le_of_ble_eq_true rfl) (Nat.le_of_ble_eq_true rfl) rfl rfl ?_
  refine pm_R_br pm_M59 (pc' := 58) (st' := []) rfl rfl ?_
  refine pm_R_op pm_M59 (pc' := 59) (st' := [.int 0]) rfl rfl rfl ?_
  refine pm_R_lo pm_M59 (pc' := 60) (ls' := [.ref 72, .ref 17, .int 0]) (st' := []) rfl rfl rfl ?_
  refine pm_R_lo pm_M59 (pc' := 61) rfl rfl rfl ?_
  refine pm_R_lo pm_M59 (pc' := 62) rfl rfl rfl ?_
  refine pm_R_get pm_M59 (pc' := 65) (v := .ref 76) rfl rfl rfl (Nat.le_of_ble_eq_true rfl) (Nat.le_of_ble_eq_true rfl) rfl rfl ?_
  refine pm_R_alen pm_M59 (pc' := 66) (v := 2) rfl rfl (Nat.le_of_ble_eq_true rfl) (Nat.le_of_ble_eq_true rfl) (Nat.le_of_ble_eq_true rfl) rfl rfl ?_
  refine pm_R_br pm_M59 (pc' := 69) (st' := []) rfl rfl ?_
  refine pm_R_lo pm_M59 (pc' := 70) rfl rfl rfl ?_
  refine pm_R_get pm_M59 (pc' := 73) (v := .ref 76) rfl rfl rfl (Nat.le_of_ble_eq_true rfl) (Nat.le_of_ble_eq_true rfl) rfl rfl ?_
  refine pm_R_lo pm_M59 (pc' := 74) rfl rfl rfl ?_
  refine pm_R_lo pm_M59 (pc' := 75) rfl rfl rfl ?_
  refine pm_R_get pm_M59 (pc' := 78) (v := .ref 21) rfl rfl (hh 17 (Nat.le_of_ble_eq_true rfl)) (Nat.le_of_ble_eq_true rfl) (Nat.le_of_ble_eq_true rfl) rfl rfl ?_
  refine pm_R_lo pm_M59 (pc' := 79) rfl rfl rfl ?_
  refine pm_R_aald pm_M59 (pc' := 80) (v := .null) rfl (hh 21 (Nat.le_of_ble_eq_true rfl)) (Nat.le_of_ble_eq_true rfl) (Nat.le_of_ble_eq_true rfl) (Nat.le_of_ble_eq_true rfl) (Nat.le_of_ble_eq_true rfl) rfl rfl rfl ?_
  refine pm_R_aastN pm_M59 (pc' := 81) rfl rfl (Nat.le_of_ble_eq_true rfl) (Nat.le_of_ble_eq_true rfl) (Nat.le_of_ble_eq_true rfl) (Nat.le_of_ble_eq_true rfl) rfl rfl ?_
  refine pm_R_lo pm_M59 (pc' := 84) (ls' := [.ref 72, .ref 17, .int 1]) (st' := []) rfl rfl rfl ?_
  refine pm_R_br pm_M59 (pc' := 60) rfl rfl ?_
  refine pm_R_lo pm_M59 (pc' := 61) rfl rfl rfl ?_
  refine pm_R_lo pm_M59 (pc' := 62) rfl rfl rfl ?_
  refine pm_R_get pm_M59 (pc' := 65) (v := .ref 76) rfl rfl rfl (Nat.le_of_ble_eq_true rfl) (Nat.le_of_ble_eq_true rfl) rfl rfl ?_
  refine pm_R_alen pm_M59 (pc' := 66) (v := 2) rfl rfl (Nat.le_of_ble_eq_true rfl) (Nat.le_of_ble_eq_true rfl) (Nat.le_of_ble_eq_true rfl) rfl rfl ?_
  refine pm_R_br pm_M59 (pc' := 69) (st' := []) rfl rfl ?_
  refine pm_R_lo pm_M59 (pc' := 70) rfl rfl rfl ?_
  refine pm_R_get pm_M59 (pc' := 73) (v := .ref 76) rfl rfl rfl (Nat.le_of_ble_eq_true rfl) (Nat.le_of_ble_eq_true rfl) rfl rfl ?_
  refine pm_R_lo pm_M59 (pc' := 74) rfl rfl rfl ?_
  refine pm_R_lo pm_M59 (pc' := 75) rfl rfl rfl ?_
  refine pm_R_get pm_M59 (pc' := 78) (v := .ref 21) rfl rfl (hh 17 (Nat.le_of_ble_eq_true rfl)) (Nat.le_of_ble_eq_true rfl) (Nat.le_of_ble_eq_true rfl) rfl rfl ?_
  refine pm_R_lo pm_M59 (pc' := 79) rfl rfl rfl ?_
  refine pm_R_aald pm_M59 (pc' := 80) (v := .null) rfl (hh 21 (Nat.le_of_ble_eq_true rfl)) (Nat.le_of_ble_eq_true rfl) (Nat.le_of_ble_eq_true rfl) (Nat.le_of_ble_eq_true rfl) (Nat.le_of_ble_eq_true rfl) rfl rfl rfl ?_
  refine pm_R_aastN pm_M59 (pc' := 81) rfl rfl (Nat.le_of_ble_eq_true rfl) (Nat.le_of_ble_eq_true rfl) (Nat.le_of_ble_eq_true rfl) (Nat.le_of_ble_eq_true rfl) rfl rfl ?_
  refine pm_R_lo pm_M59 (pc' := 84) (ls' := [.ref 72, .ref 17, .int 2]) (st' := []) rfl rfl rfl ?_
  refine pm_R_br pm_M59 (pc' := 60) rfl rfl ?_
  refine pm_R_lo pm_M59 (pc' := 61) rfl rfl rfl ?_
  refine pm_R_lo pm_M59 (pc' := 62) rfl rfl rfl ?_
  refine pm_R_get pm_M59 (pc' := 65) (v := .ref 76) rfl rfl rfl (Nat.le_of_ble_eq_true rfl) (Nat.le_of_ble_eq_true rfl) rfl rfl ?_
  refine pm_R_alen pm_M59 (pc' := 66) (v := 2) rfl rfl (Nat.le_of_ble_eq_true rfl) (Nat.le_of_ble_eq_true rfl) (Nat.le_of_ble_eq_true rfl) rfl rfl ?_
  refine pm_R_br pm_M59 (pc' := 87) (st' := []) rfl rfl ?_
  refine pm_R_op pm_M59 (pc' := 88) (st' := [.int 0]) rfl rfl rfl ?_
  refine pm_R_lo pm_M59 (pc' := 89) (ls' := [.ref 72, .ref 17, .int 0]) (st' := []) rfl rfl rfl ?_
  refine pm_R_lo pm_M59 (pc' := 90) rfl rfl rfl ?_
  refine pm_R_lo pm_M59 (pc' := 91) rfl rfl rfl ?_
  refine pm_R_get pm_M59 (pc' := 94) (v := .ref 77) rfl rfl rfl (Nat.le_of_ble_eq_true rfl) (Nat.le_of_ble_eq_true rfl) rfl rfl ?_
  refine pm_R_alen pm_M59 (pc' := 95) (v := 2) rfl rfl (Nat.le_of_ble_eq_true rfl) (Nat.le_of_ble_eq_true rfl) (Nat.le_of_ble_eq_true rfl) rfl rfl ?_
  refine pm_R_br pm_M59 (pc' := 98) (st' := []) rfl rfl ?_
  refine pm_R_lo pm_M59 (pc' := 99) rfl rfl rfl ?_
  refine pm_R_get pm_M59 (pc' := 102) (v := .ref 77) rfl rfl rfl (Nat.le_of_ble_eq_true rfl) (Nat.le_of_ble_eq_true rfl) rfl rfl ?_
  refine pm_R_lo pm_M59 (pc' := 103) (pm_q59_1 (Nat.le_of_ble_eq_true rfl)) rfl rfl ?_
  refine pm_R_lo pm_M59 (pc' := 104) (pm_q59_1 (Nat.le_of_ble_eq_true rfl)) rfl rfl ?_
  refine pm_R_get pm_M59 (pc' := 107) (v := .ref 22) (pm_q59_1 (Nat.le_of_ble_eq_true rfl)) rfl (hh 17 (Nat.le_of_ble_eq_true rfl)) (Nat.le_of_ble_eq_true rfl) (Nat.le_of_ble_eq_true rfl) rfl rfl ?_
  refine pm_R_lo pm_M59 (pc' := 108) (pm_q59_1 (Nat.le_of_ble_eq_true rfl)) rfl rfl ?_
  refine pm_R_aald pm_M59 (pc' := 109) (v := .null) (pm_q59_1 (Nat.le_of_ble_eq_true rfl)) (hh 22 (Nat.le_of_ble_eq_true rfl)) (Nat.le_of_ble_eq_true rfl) (Nat.le_of_ble_eq_true rfl) (Nat.le_of_ble_eq_true rfl) (Nat.le_of_ble_eq_true rfl) rfl rfl rfl ?_
  refine pm_R_aastN pm_M59 (pc' := 110) (pm_q59_1 (Nat.le_of_ble_eq_true rfl)) rfl (Nat.le_of_ble_eq_true rfl) (Nat.le_of_ble_eq_true rfl) (Nat.le_of_ble_eq_true rfl) (Nat.le_of_ble_eq_true rfl) rfl rfl ?_
  refine pm_R_lo pm_M59 (pc' := 113) (ls' := [.ref 72, .ref 17, .int 1]) (st' := []) (pm_q59_1 (Nat.le_of_ble_eq_true rfl)) rfl rfl ?_
  refine pm_R_br pm_M59 (pc' := 89) (pm_q59_1 (Nat.le_of_ble_eq_true rfl)) rfl ?_
  refine pm_R_lo pm_M59 (pc' := 90) rfl rfl rfl ?_
  refine pm_R_lo pm_M59 (pc' := 91) rfl rfl rfl ?_
  refine pm_R_get pm_M59 (pc' := 94) (v := .ref 77) rfl rfl rfl (Nat.le_of_ble_eq_true rfl) (Nat.le_of_ble_eq_true rfl) rfl rfl ?_
  refine pm_R_alen pm_M59 (pc' := 95) (v := 2) rfl rfl (Nat.le_of_ble_eq_true rfl) (Nat.le_of_ble_eq_true rfl) (Nat.le_of_ble_eq_true rfl) rfl rfl ?_
  refine pm_R_br pm_M59 (pc' := 98) (st' := []) rfl rfl ?_
  refine pm_R_lo pm_M59 (pc' := 99) rfl rfl rfl ?_
  refine pm_R_get pm_M59 (pc' := 102) (v := .ref 77) rfl rfl rfl (Nat.le_of_ble_eq_true rfl) (Nat.le_of_ble_eq_true rfl) rfl rfl ?_
  refine pm_R_lo pm_M59 (pc' := 103) (pm_q59_1 (Nat.le_of_ble_eq_true rfl)) rfl rfl ?_
  refine pm_R_lo pm_M59 (pc' := 104) (pm_q59_1 (Nat.le_of_ble_eq_true rfl)) rfl rfl ?_
  refine pm_R_get pm_M59 (pc' := 107) (v := .ref 22) (pm_q59_1 (Nat.le_of_ble_eq_true rfl)) rfl (hh 17 (Nat.le_of_ble_eq_true rfl)) (Nat.le_of_ble_eq_true rfl) (Nat.le_of_ble_eq_true rfl) rfl rfl ?_
  refine pm_R_lo pm_M59 (pc' := 108) (pm_q59_1 (Nat.le_of_ble_eq_true rfl)) rfl rfl ?_
  refine pm_R_aald pm_M59 (pc' := 109) (v := .null) (pm_q59_1 (Nat.le_of_ble_eq_true rfl)) (hh 22 (Nat.le_of_ble_eq_true rfl)) (Nat.le_of_ble_eq_true rfl) (Nat.le_of_ble_eq_true rfl) (Nat.le_of_ble_eq_true rfl) (Nat.le_of_ble_eq_true rfl) rfl rfl rfl ?_
  refine pm_R_aastN pm_M59 (pc' := 110) (pm_q59_1 (Nat.le_of_ble_eq_true rfl)) rfl (Nat.le_of_ble_eq_true rfl) (Nat.le_of_ble_eq_true rfl) (Nat.le_of_ble_eq_true rfl) (Nat.le_of_ble_eq_true rfl) rfl rfl ?_
  refine pm_R_lo pm_M59 (pc' := 113) (ls' := [.ref 72, .ref 17, .int 2]) (st' := []) (pm_q59_1 (Nat.le_of_ble_eq_true rfl)) rfl rfl ?_
  refine pm_R_br pm_M59 (pc' := 89) (pm_q59_1 (Nat.le_of_ble_eq_true rfl)) rfl ?_
  refine pm_R_lo pm_M59 (pc' := 90) rfl rfl rfl ?_
  refine pm_R_lo pm_M59 (pc' := 91) rfl rfl rfl ?_
  refine pm_R_get pm_M59 (pc' := 94) (v := .ref 77) rfl rfl rfl (Nat.le_of_ble_eq_true rfl) (Nat.le_of_ble_eq_true rfl) rfl rfl ?_
  refine pm_R_alen pm_M59 (pc' := 95) (v := 2) rfl rfl (Nat.le_of_ble_eq_true rfl) (Nat.le_of_ble_eq_true rfl) (Nat.le_of_ble_eq_true rfl) rfl rfl ?_
  refine pm_R_br pm_M59 (pc' := 116) (st' := []) rfl rfl ?_
  refine pm_R_ret pm_M59 (r := none) (pm_q59_1 (Nat.le_of_ble_eq_true rfl)) rfl ?_
  show pm_R _ 58 59 [.ref 72, .ref 17] [] _ _
  refine pm_R_ret pm_M58 (r := none) rfl rfl ?_
  show pm_R _ 57 46 [.ref 16, .int 2] [] _ _
  refine pm_R_op pm_M57 (pc' := 47) (st' := [.int 1]) rfl rfl rfl ?_
  refine pm_R_ret pm_M57 (r := some (.int 1)) rfl rfl ?_
  show pm_R _ 0 2084 [.ref 0, .ref 16, .ref 41, .int 0] [.int 1] _ _
  refine pm_R_lo pm_M0 (pc' := 2085) (pm_q0_27 (Nat.le_of_ble_eq_true rfl)) rfl rfl ?_
  refine pm_R_lo pm_M0 (pc' := 2086) (pm_q0_27 (Nat.le_of_ble_eq_true rfl)) rfl rfl ?_
  refine pm_R_lo pm_M0 (pc' := 2087) (pm_q0_27 (Nat.le_of_ble_eq_true rfl)) rfl rfl ?_
  refine pm_R_op pm_M0 (pc' := 2088) (st' := [.int 1, .int 0, .ref 0, .ref 41, .int 1]) (pm_q0_27 (Nat.le_of_ble_eq_true rfl)) rfl rfl ?_
  refine pm_R_op pm_M0 (pc' := 2089) (st' := [.int 1, .ref 0, .ref 41, .int 1]) (pm_q0_27 (Nat.le_of_ble_eq_true rfl)) rfl rfl ?_
  refine pm_R_iald pm_M0 (pc' := 2090) (v := 2) (pm_q0_27 (Nat.le_of_ble_eq_true rfl)) (hh 0 (Nat.le_of_ble_eq_true rfl)) (Nat.le_of_ble_eq_true rfl) rfl hx1 rfl ?_
  refine pm_R_cv pm_M0 (pc' := 2093) (a := 41) (ra := [.int 2]) (rest := [.int 1]) (ls' := [.ref 41, .int 2]) (pm_q0_27 (Nat.le_of_ble_eq_true rfl)) rfl (Or.inl rfl) pm_M295 (hh 41 (Nat.le_of_ble_eq_true rfl)) rfl (Nat.le_of_ble_eq_true rfl) (Nat.le_of_ble_eq_true rfl) rfl rfl (Nat.le_of_ble_eq_true rfl) rfl rfl ?_
  refine pm_R_lo pm_M295 (pc' := 1) rfl rfl rfl ?_
  refine pm_R_op pm_M295 (pc' := 2) (st' := [.int 0, .ref 41]) rfl rfl rfl ?_
  refine pm_R_put pm_M295 (pc' := 5) (fs' := [.int 0, .ref 42, .ref 43, .ref 44, .ref 45, .ref 46, .ref 47, .ref 48, .ref 49, .ref 50, .int 0, .int 0, .int 0, .int 0, .int 0, .long 0, .int 0, .int 0, .int 0, .ref 51, .ref 52, .int 0, .int 0, .int 0, .int 0, .ref 53, .int 0, .int 0, .ref 54, .ref 55, .ref 56, .int 0, .ref 57, .ref 58, .ref 59, .ref 60, .ref 61, .ref 62, .ref 63, .ref 64, .ref 65, .ref 66, .int 0, .int 0, .int 0, .ref 67, .ref 68, .int 0, .ref 69, .int 0, .int 0, .ref 70, .ref 71]) rfl rfl rfl (hh 41 (Nat.le_of_ble_eq_true rfl)) (Nat.le_of_ble_eq_true rfl) (Nat.le_of_ble_eq_true rfl) (Nat.le_of_ble_eq_true rfl) rfl (Or.inl rfl) rfl rfl ?_
  refine pm_R_lo pm_M295 (pc' := 6) rfl rfl rfl ?_
  refine pm_R_op pm_M295 (pc' := 7) (st' := [.int 0, .int 2]) rfl rfl rfl ?_
  refine pm_R_op pm_M295 (pc' := 8) (st' := [.int 2, .int 0, .int 2]) rfl rfl rfl ?_
  refine pm_R_cs pm_M295 (pc' := 11) (ra := [.int 2, .int 0, .int 2]) (rest := []) (ls' := [.int 2, .int 0, .int 2]) rfl rfl (Or.inl rfl) pm_M174 rfl rfl (Nat.le_of_ble_eq_true rfl) rfl rfl ?_
  refine pm_R_lo pm_M174 (pc' := 1) rfl rfl rfl ?_
  refine pm_R_lo pm_M174 (pc' := 2) rfl rfl rfl ?_
  refine pm_R_br pm_M174 (pc' := 5) (st' := []) rfl rfl ?_
  refine pm_R_lo pm_M174 (pc' := 6) rfl rfl rfl ?_
  refine pm_R_lo pm_M174 (pc' := 7) rfl rfl rfl ?_
  refine pm_R_br pm_M174 (pc' := 10) (st' := []) rfl rfl ?_
  refine pm_R_op pm_M174 (pc' := 11) (st' := [.int 1]) rfl rfl rfl ?_
  refine pm_R_br pm_M174 (pc' := 15) rfl rfl ?_
  refine pm_R_ret pm_M174 (r := some (.int 1)) rfl rfl ?_
  show pm_R _ 295 11 [.ref 41, .int 2] [.int 1] _ _
  refine pm_R_br pm_M295 (pc' := 16) (st' := []) rfl rfl ?_
  refine pm_R_lo pm_M295 (pc' := 17) rfl rfl rfl ?_
  refine pm_R_op pm_M295 (pc' := 18) (st' := [.int 0, .ref 41]) rfl rfl rfl ?_
  refine pm_R_lo pm_M295 (pc' := 19) rfl rfl rfl ?_
  refine pm_R_op pm_M295 (pc' := 20) (st' := [.int 1, .int 2, .int 0, .ref 41]) rfl rfl rfl ?_
  refine pm_R_op pm_M295 (pc' := 21) (st' := [.int 3, .int 0, .ref 41]) rfl rfl rfl ?_
  refine pm_R_cv pm_M295 (pc' := 24) (a := 41) (ra := [.int 3, .int 0]) (rest := []) (ls' := [.ref 41, .int 0, .int 3, pm_no]) rfl rfl (Or.inl rfl) pm_M296 rfl rfl (Nat.le_of_ble_eq_true rfl) (Nat.le_of_ble_eq_true rfl) rfl rfl (Nat.le_of_ble_eq_true rfl) rfl rfl ?_
  refine pm_R_op pm_M296 (pc' := 1) (st' := [.int 0]) rfl rfl rfl ?_
  refine pm_R_lo pm_M296 (pc' := 2) (ls' := [.ref 41, .int 0, .int 3, .int 0]) (st' := []) rfl rfl rfl ?_
  refine pm_R_heq (pm_set_self (a := 42) (c := .inl (2, 2400, .inl (fun _ => 0))) (hh 42 (Nat.le_of_ble_eq_true rfl))).symm ?_
  refine p1_L4 (to := 3) rfl rfl (Nat.le_of_ble_eq_true rfl) (by decide) (fun g_1 => ?_) 600 0 _ rfl
  refine pm_R_lo pm_M296 (pc' := 40) rfl rfl rfl ?_
  refine pm_R_get pm_M296 (pc' := 43) (v := .ref 43) rfl rfl rfl (Nat.le_of_ble_eq_true rfl) (Nat.le_of_ble_eq_true rfl) rfl rfl ?_
  refine pm_R_op pm_M296 (pc' := 44) (st' := [.int 1, .ref 43]) rfl rfl rfl ?_
  refine pm_R_lo pm_M296 (pc' := 45) rfl rfl rfl ?_
  refine pm_R_lo pm_M296 (pc' := 46) rfl rfl rfl ?_
  refine pm_R_cs pm_M296 (pc' := 49) (ra := [.int 3, .int 0, .int 1, .ref 43]) (rest := []) (ls' := [.ref 43, .int 1, .int 0, .int 3, pm_no]) rfl rfl (Or.inl rfl) pm_M297 rfl rfl (Nat.le_of_ble_eq_true rfl) rfl rfl ?_
  refine pm_R_op pm_M297 (pc' := 1) (st' := [.int 0]) rfl rfl rfl ?_
  refine pm_R_lo pm_M297 (pc' := 3) (ls' := [.ref 43, .int 1, .int 0, .int 3, .int 0]) (st' := []) rfl rfl rfl ?_
  refine pm_R_heq (pm_set_self (a := 43) (c := .inl (0, 4, .inl (fun _ => 0))) (hh 43 (Nat.le_of_ble_eq_true rfl))).symm ?_
  refine p1_L3 (a := 43) (w := 1) (to := 3) (N := 4) (Nat.le_of_ble_eq_true rfl) (Nat.le_of_ble_eq_true rfl) (by decide) (by decide) (fun g_2 => ?_) 1 0 _ rfl
  show pm_R _ 296 49 [.ref 41, .int 0, .int 3, .int 600] [] _ _
  refine pm_R_lo pm_M296 (pc' := 50) rfl rfl rfl ?_
  refine pm_R_get pm_M296 (pc' := 53) (v := .ref 44) rfl rfl rfl (Nat.le_of_ble_eq_true rfl) (Nat.le_of_ble_eq_true rfl) rfl rfl ?_
  refine pm_R_op pm_M296 (pc' := 54) (st' := [.int 1, .ref 44]) rfl rfl rfl ?_
  refine pm_R_lo pm_M296 (pc' := 55) rfl rfl rfl ?_
  refine pm_R_lo pm_M296 (pc' := 56) rfl rfl rfl ?_
  refine pm_R_cs pm_M296 (pc' := 59) (ra := [.int 3, .int 0, .int 1, .ref 44]) (rest := []) (ls' := [.ref 44, .int 1, .int 0, .int 3, pm_no]) rfl rfl (Or.inl rfl) pm_M297 rfl rfl (Nat.le_of_ble_eq_true rfl) rfl rfl ?_
  refine pm_R_op pm_M297 (pc' := 1) (st' := [.int 0]) rfl rfl rfl ?_
  refine pm_R_lo pm_M297 (pc' := 3) (ls' := [.ref 44, .int 1, .int 0, .int 3, .int 0]) (st' := []) rfl rfl rfl ?_
  refine pm_R_heq (pm_set_self (a := 44) (c := .inl (0, 4, .inl (fun _ => 0))) (hh 44 (Nat.le_of_ble_eq_true rfl))).symm ?_
  refine p1_L3 (a := 44) (w := 1) (to := 3) (N := 4) (Nat.le_of_ble_eq_true rfl) (Nat.le_of_ble_eq_true rfl) (by decide) (by decide) (fun g_3 => ?_) 1 0 _ rfl
  show pm_R _ 296 59 [.ref 41, .int 0, .int 3, .int 600] [] _ _
  refine pm_R_lo pm_M296 (pc' := 60) rfl rfl rfl ?_
  refine pm_R_get pm_M296 (pc' := 63) (v := .ref 45) rfl rfl rfl (Nat.le_of_ble_eq_true rfl) (Nat.le_of_ble_eq_true rfl) rfl rfl ?_
  refine pm_R_op pm_M296 (pc' := 64) (st' := [.int 1, .ref 45]) rfl rfl rfl ?_
  refine pm_R_lo pm_M296 (pc' := 65) rfl rfl rfl ?_
  refine pm_R_lo pm_M296 (pc' := 66) rfl rfl rfl ?_
  refine pm_R_cs pm_M296 (pc' := 69) (ra := [.int 3, .int 0, .int 1, .ref 45]) (rest := []) (ls' := [.ref 45, .int 1, .int 0, .int 3, pm_no]) rfl rfl (Or.inl rfl) pm_M297 rfl rfl (Nat.le_of_ble_eq_true rfl) rfl rfl ?_
  refine pm_R_op pm_M297 (pc' := 1) (st' := [.int 0]) rfl rfl rfl ?_
  refine pm_R_lo pm_M297 (pc' := 3) (ls' := [.ref 45, .int 1, .int 0, .int 3, .int 0]) (st' := []) rfl rfl rfl ?_
  refine pm_R_heq (pm_set_self (a := 45) (c := .inl (0, 4, .inl (upd (fun _ => 0) 0 (-1)))) (hh 45 (Nat.le_of_ble_eq_true rfl))).symm ?_
  refine p1_L3 (a := 45) (w := 1) (to := 3) (N := 4) (Nat.le_of_ble_eq_true rfl) (Nat.le_of_ble_eq_true rfl) (by decide) (by decide) (fun g_4 => ?_) 1 0 _ rfl
  show pm_R _ 296 69 [.ref 41, .int 0, .int 3, .int 600] [] _ _
  refine pm_R_lo pm_M296 (pc' := 70) rfl rfl rfl ?_
  refine pm_R_get pm_M296 (pc' := 73) (v := .ref 46) rfl rfl rfl (Nat.le_of_ble_eq_true rfl) (Nat.le_of_ble_eq_true rfl) rfl rfl ?_
  refine pm_R_op pm_M296 (pc' := 74) (st' := [.int 4, .ref 46]) rfl rfl rfl ?_
  refine pm_R_lo pm_M296 (pc' := 75) rfl rfl rfl ?_
  refine pm_R_lo pm_M296 (pc' := 76) rfl rfl rfl ?_
  refine pm_R_cs pm_M296 (pc' := 79) (ra := [.int 3, .int 0, .int 4, .ref 46]) (rest := []) (ls' := [.ref 46, .int 4, .int 0, .int 3, pm_no]) rfl rfl (Or.inl rfl) pm_M297 rfl rfl (Nat.le_of_ble_eq_true rfl) rfl rfl ?_
  refine pm_R_op pm_M297 (pc' := 1) (st' := [.int 0]) rfl rfl rfl ?_
  refine pm_R_lo pm_M297 (pc' := 3) (ls' := [.ref 46, .int 4, .int 0, .int 3, .int 0]) (st' := []) rfl rfl rfl ?_
  refine pm_R_heq (pm_set_self (a := 46) (c := .inl (0, 16, .inl (fun _ => 0))) (hh 46 (Nat.le_of_ble_eq_true rfl))).symm ?_
  refine p1_L3 (a := 46) (w := 4) (to := 3) (N := 16) (Nat.le_of_ble_eq_true rfl) (Nat.le_of_ble_eq_true rfl) (by decide) (by decide) (fun g_5 => ?_) 4 0 _ rfl
  show pm_R _ 296 79 [.ref 41, .int 0, .int 3, .int 600] [] _ _
  refine pm_R_lo pm_M296 (pc' := 80) rfl rfl rfl ?_
  refine pm_R_get pm_M296 (pc' := 83) (v := .ref 47) rfl rfl rfl (Nat.le_of_ble_eq_true rfl) (Nat.le_of_ble_eq_true rfl) rfl rfl ?_
  refine pm_R_op pm_M296 (pc' := 86) (st' := [.int 200, .ref 47]) rfl rfl rfl ?_
  refine pm_R_lo pm_M296 (pc' := 87) rfl rfl rfl ?_
  refine pm_R_lo pm_M296 (pc' := 88) rfl rfl rfl ?_
  refine pm_R_cs pm_M296 (pc' := 91) (ra := [.int 3, .int 0, .int 200, .ref 47]) (rest := []) (ls' := [.ref 47, .int 200, .int 0, .int 3, pm_no]) rfl rfl (Or.inl rfl) pm_M297 rfl rfl (Nat.le_of_ble_eq_true rfl) rfl rfl ?_
  refine pm_R_op pm_M297 (pc' := 1) (st' := [.int 0]) rfl rfl rfl ?_
  refine pm_R_lo pm_M297 (pc' := 3) (ls' := [.ref 47, .int 200, .int 0, .int 3, .int 0]) (st' := []) rfl rfl rfl ?_
  refine pm_R_heq (pm_set_self (a := 47) (c := .inl (0, 800, .inl (fun _ => 0))) (hh 47 (Nat.le_of_ble_eq_true rfl))).symm ?_
  refine p1_L3 (a := 47) (w := 200) (to := 3) (N := 800) (Nat.le_of_ble_eq_true rfl) (Nat.le_of_ble_eq_true rfl) (by decide) (by decide) (fun g_6 => ?_) 200 0 _ rfl
  show pm_R _ 296 91 [.ref 41, .int 0, .int 3, .int 600] [] _ _
  refine pm_R_lo pm_M296 (pc' := 92) rfl rfl rfl ?_
  refine pm_R_get pm_M296 (pc' := 95) (v := .ref 48) rfl rfl rfl (Nat.le_of_ble_eq_true rfl) (Nat.le_of_ble_eq_true rfl) rfl rfl ?_
  refine pm_R_op pm_M296 (pc' := 97) (st' := [.int 39, .ref 48]) rfl rfl rfl ?_
  refine pm_R_lo pm_M296 (pc' := 98) rfl rfl rfl ?_
  refine pm_R_lo pm_M296 (pc' := 99) rfl rfl rfl ?_
  refine pm_R_cs pm_M296 (pc' := 102) (ra := [.int 3, .int 0, .int 39, .ref 48]) (rest := []) (ls' := [.ref 48, .int 39, .int 0, .int 3, pm_no]) rfl rfl (Or.inl rfl) pm_M297 rfl rfl (Nat.le_of_ble_eq_true rfl) rfl rfl ?_
  refine pm_R_op pm_M297 (pc' := 1) (st' := [.int 0]) rfl rfl rfl ?_
  refine pm_R_lo pm_M297 (pc' := 3) (ls' := [.ref 48, .int 39, .int 0, .int 3, .int 0]) (st' := []) rfl rfl rfl ?_
  refine pm_R_heq (pm_set_self (a := 48) (c := .inl (0, 156, .inl (fun _ => 0))) (hh 48 (Nat.le_of_ble_eq_true rfl))).symm ?_
  refine p1_L3 (a := 48) (w := 39) (to := 3) (N := 156) (Nat.le_of_ble_eq_true rfl) (Nat.le_of_ble_eq_true rfl) (by decide) (by decide) (fun g_7 => ?_) 39 0 _ rfl
  show pm_R _ 296 102 [.ref 41, .int 0, .int 3, .int 600] [] _ _
  refine pm_R_lo pm_M296 (pc' := 103) rfl rfl rfl ?_
  refine pm_R_get pm_M296 (pc' := 106) (v := .ref 49) (pm_q296_1 (Nat.le_of_ble_eq_true rfl)) rfl rfl (Nat.le_of_ble_eq_true rfl) (Nat.le_of_ble_eq_true rfl) rfl rfl ?_
  refine pm_R_op pm_M296 (pc' := 109) (st' := [.int 304, .ref 49]) (pm_q296_1 (Nat.le_of_ble_eq_true rfl)) rfl rfl ?_
  refine pm_R_lo pm_M296 (pc' := 110) (pm_q296_1 (Nat.le_of_ble_eq_true rfl)) rfl rfl ?_
  refine pm_R_lo pm_M296 (pc' := 111) (pm_q296_1 (Nat.le_of_ble_eq_true rfl)) rfl rfl ?_
  refine pm_R_cs pm_M296 (pc' := 114) (ra := [.int 3, .int 0, .int 304, .ref 49]) (rest := []) (ls' := [.ref 49, .int 304, .int 0, .int 3, pm_no]) (pm_q296_1 (Nat.le_of_ble_eq_true rfl)) rfl (Or.inl rfl) pm_M297 rfl rfl (Nat.le_of_ble_eq_true rfl) rfl rfl ?_
  refine pm_R_op pm_M297 (pc' := 1) (st' := [.int 0]) rfl rfl rfl ?_
  refine pm_R_lo pm_M297 (pc' := 3) (ls' := [.ref 49, .int 304, .int 0, .int 3, .int 0]) (st' := []) rfl rfl rfl ?_
  refine pm_R_heq (pm_set_self (a := 49) (c := .inl (0, 1216, .inl (fun _ => 0))) (hh 49 (Nat.le_of_ble_eq_true rfl))).symm ?_
  refine p1_L3 (a := 49) (w := 304) (to := 3) (N := 1216) (Nat.le_of_ble_eq_true rfl) (Nat.le_of_ble_eq_true rfl) (by decide) (by decide) (fun g_8 => ?_) 304 0 _ rfl
  show pm_R _ 296 114 [.ref 41, .int 0, .int 3, .int 600] [] _ _
  refine pm_R_lo pm_M296 (pc' := 115) (pm_q296_1 (Nat.le_of_ble_eq_true rfl)) rfl rfl ?_
  refine pm_R_get pm_M296 (pc' := 118) (v := .ref 50) (pm_q296_1 (Nat.le_of_ble_eq_true rfl)) rfl rfl (Nat.le_of_ble_eq_true rfl) (Nat.le_of_ble_eq_true rfl) rfl rfl ?_
  refine pm_R_op pm_M296 (pc' := 120) (st' := [.int 50, .ref 50]) (pm_q296_1 (Nat.le_of_ble_eq_true rfl)) rfl rfl ?_
  refine pm_R_lo pm_M296 (pc' := 121) (pm_q296_1 (Nat.le_of_ble_eq_true rfl)) rfl rfl ?_
  refine pm_R_lo pm_M296 (pc' := 122) (pm_q296_1 (Nat.le_of_ble_eq_true rfl)) rfl rfl ?_
  refine pm_R_cs pm_M296 (pc' := 125) (ra := [.int 3, .int 0, .int 50, .ref 50]) (rest := []) (ls' := [.ref 50, .int 50, .int 0, .int 3, pm_no]) (pm_q296_1 (Nat.le_of_ble_eq_true rfl)) rfl (Or.inl rfl) pm_M297 rfl rfl (Nat.le_of_ble_eq_true rfl) rfl rfl ?_
  refine pm_R_op pm_M297 (pc' := 1) (st' := [.int 0]) rfl rfl rfl ?_
  refine pm_R_lo pm_M297 (pc' := 3) (ls' := [.ref 50, .int 50, .int 0, .int 3, .int 0]) (st' := []) rfl rfl rfl ?_
  refine pm_R_heq (pm_set_self (a := 50) (c := .inl (0, 200, .inl (fun _ => 0))) (hh 50 (Nat.le_of_ble_eq_true rfl))).symm ?_
  refine p1_L3 (a := 50) (w := 50) (to := 3) (N := 200) (Nat.le_of_ble_eq_true rfl) (Nat.le_of_ble_eq_true rfl) (by decide) (by decide) (fun g_9 => ?_) 50 0 _ rfl
  show pm_R _ 296 125 [.ref 41, .int 0, .int 3, .int 600] [] _ _
  refine pm_R_ret pm_M296 (r := none) (pm_q296_1 (Nat.le_of_ble_eq_true rfl)) rfl ?_
  show pm_R _ 295 24 [.ref 41, .int 2] [] _ _
  refine pm_R_lo pm_M295 (pc' := 25) rfl rfl rfl ?_
  refine pm_R_get pm_M295 (pc' := 28) (v := .ref 71) rfl rfl rfl (Nat.le_of_ble_eq_true rfl) (Nat.le_of_ble_eq_true rfl) rfl rfl ?_
  refine pm_R_lo pm_M295 (pc' := 29) rfl rfl rfl ?_
  refine pm_R_op pm_M295 (pc' := 30) (st' := [.int 1, .int 2, .ref 71]) rfl rfl rfl ?_
  refine pm_R_zast pm_M295 (pc' := 31) rfl (hh 71 (Nat.le_of_ble_eq_true rfl)) (Nat.le_of_ble_eq_true rfl) (Nat.le_of_ble_eq_true rfl) rfl rfl ?_
  refine pm_R_op pm_M295 (pc' := 32) (st' := [.int 1]) rfl rfl rfl ?_
  refine pm_R_ret pm_M295 (r := some (.int 1)) rfl rfl ?_
  show pm_R _ 0 2093 [.ref 0, .ref 16, .ref 41, .int 0] [.int 1, .int 1] _ _
  refine pm_R_br pm_M0 (pc' := 2121) (st' := []) (pm_q0_27 (Nat.le_of_ble_eq_true rfl)) rfl ?_
  exact p1_tail (hh 0 (Nat.le_of_ble_eq_true rfl)) (Nat.le_of_ble_eq_true rfl) (Nat.le_of_ble_eq_true rfl) (Nat.le_of_ble_eq_true rfl)
