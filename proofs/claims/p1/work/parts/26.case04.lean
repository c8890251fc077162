set_option maxRecDepth 100000 in
set_option maxHeartbeats 40000000 in
theorem p1_c12 (xs : Nat → Int32) (f : Nat → pm_E) (hh : ∀ i, i < 72 → f i = pm_fF 7 xs i) (x0 x1 x2 x3 x4 x5 x6 : Int32) (hx0 : xs 0 = x0) (hx1 : xs 1 = x1) (hx2 : xs 2 = x2) (hx3 : xs 3 = x3) (hx4 : xs 4 = x4) (hx5 : xs 5 = x5) (hx6 : xs 6 = x6) : pm_R 100 0 748 [.ref 0, .ref 16, .ref 41, .int 0] [] (72, 52657, f) p1_Q := by
  refine pm_R_lo pm_M0 (pc' := 749) (pm_q0_7 (Nat.le_of_ble_eq_true rfl)) rfl rfl ?_
  refine pm_R_lo pm_M0 (pc' := 750) (pm_q0_7 (Nat.le_of_ble_eq_true rfl)) rfl rfl ?_
  refine pm_R_lo pm_M0 (pc' := 751) (pm_q0_7 (Nat.le_of_ble_eq_true rfl)) rfl rfl ?_
  refine pm_R_op pm_M0 (pc' := 752) (st' := [.int 1, .int 0, .ref 0, .ref 16]) (pm_q0_7 (Nat.le_of_ble_eq_true rfl)) rfl rfl ?_
  refine pm_R_op pm_M0 (pc' := 753) (st' := [.int 1, .ref 0, .ref 16]) (pm_q0_7 (Nat.le_of_ble_eq_true rfl)) rfl rfl ?_
  refine pm_R_iald pm_M0 (pc' := 754) (v := x1) (pm_q0_7 (Nat.le_of_ble_eq_true rfl)) (hh 0 (Nat.le_of_ble_eq_true rfl)) (Nat.le_of_ble_eq_true rfl) rfl hx1 rfl ?_
  refine pm_R_lo pm_M0 (pc' := 755) (pm_q0_7 (Nat.le_of_ble_eq_true rfl)) rfl rfl ?_
  refine pm_R_lo pm_M0 (pc' := 756) (pm_q0_7 (Nat.le_of_ble_eq_true rfl)) rfl rfl ?_
  refine pm_R_op pm_M0 (pc' := 757) (st' := [.int 2, .int 0, .ref 0, .int x1, .ref 16]) (pm_q0_8 (Nat.le_of_ble_eq_true rfl)) rfl rfl ?_
  refine pm_R_op pm_M0 (pc' := 758) (st' := [.int 2, .ref 0, .int x1, .ref 16]) (pm_q0_8 (Nat.le_of_ble_eq_true rfl)) rfl rfl ?_
  refine pm_R_iald pm_M0 (pc' := 759) (v := x2) (pm_q0_8 (Nat.le_of_ble_eq_true rfl)) (hh 0 (Nat.le_of_ble_eq_true rfl)) (Nat.le_of_ble_eq_true rfl) rfl hx2 rfl ?_
  refine pm_R_lo pm_M0 (pc' := 760) (pm_q0_8 (Nat.le_of_ble_eq_true rfl)) rfl rfl ?_
  refine pm_R_lo pm_M0 (pc' := 761) (pm_q0_8 (Nat.le_of_ble_eq_true rfl)) rfl rfl ?_
  refine pm_R_op pm_M0 (pc' := 762) (st' := [.int 3, .int 0, .ref 0, .int x2, .int x1, .ref 16]) (pm_q0_8 (Nat.le_of_ble_eq_true rfl)) rfl rfl ?_
  refine pm_R_op pm_M0 (pc' := 763) (st' := [.int 3, .ref 0, .int x2, .int x1, .ref 16]) (pm_q0_8 (Nat.le_of_ble_eq_true rfl)) rfl rfl ?_
  refine pm_R_iald pm_M0 (pc' := 764) (v := x3) (pm_q0_8 (Nat.le_of_ble_eq_true rfl)) (hh 0 (Nat.le_of_ble_eq_true rfl)) (Nat.le_of_ble_eq_true rfl) rfl hx3 rfl ?_
  refine pm_R_lo pm_M0 (pc' := 765) (pm_q0_8 (Nat.le_of_ble_eq_true rfl)) rfl rfl ?_
  refine pm_R_lo pm_M0 (pc' := 766) (pm_q0_8 (Nat.le_of_ble_eq_true rfl)) rfl rfl ?_
  refine pm_R_op pm_M0 (pc' := 767) (st' := [.int 4, .int 0, .ref 0, .int x3, .int x2, .int x1, .ref 16]) (pm_q0_8 (Nat.le_of_ble_eq_true rfl)) rfl rfl ?_
  refine pm_R_op pm_M0 (pc' := 768) (st' := [.int 4, .ref 0, .int x3, .int x2, .int x1, .ref 16]) (pm_q0_8 (Nat.le_of_ble_eq_true rfl)) rfl rfl ?_
  refine pm_R_iald pm_M0 (pc' := 769) (v := x4) (pm_q0_8 (Nat.le_of_ble_eq_true rfl)) (hh 0 (Nat.le_of_ble_eq_true rfl)) (Nat.le_of_ble_eq_true rfl) rfl hx4 rfl ?_
  refine pm_R_cv pm_M0 (pc' := 772) (a := 16) (ra := [.int x4, .int x3, .int x2, .int x1]) (rest := []) (ls' := [.ref 16, .int x1, .int x2, .int x3, .int x4, pm_no, pm_no]) (pm_q0_8 (Nat.le_of_ble_eq_true rfl)) rfl (Or.inl rfl) pm_M109 (hh 16 (Nat.le_of_ble_eq_true rfl)) rfl (Nat.le_of_ble_eq_true rfl) (Nat.le_of_ble_eq_true rfl) rfl rfl (Nat.le_of_ble_eq_true rfl) rfl rfl ?_
  refine pm_R_lo pm_M109 (pc' := 1) rfl rfl rfl ?_
  refine pm_R_lo pm_M109 (pc' := 2) rfl rfl rfl ?_
  refine pm_R_cv pm_M109 (pc' := 5) (a := 16) (ra := [.int x1]) (rest := []) (ls' := [.ref 16, .int x1]) rfl rfl (Or.inl rfl) pm_M62 (hh 16 (Nat.le_of_ble_eq_true rfl)) rfl (Nat.le_of_ble_eq_true rfl) (Nat.le_of_ble_eq_true rfl) rfl rfl (Nat.le_of_ble_eq_true rfl) rfl rfl ?_
  refine pm_R_lo pm_M62 (pc' := 1) rfl rfl rfl ?_
  refine pm_R_ifc pm_M62 (t := 17) (pc' := 4) rfl rfl rfl (fun c_1 => ?_) (fun c_1 => ?_)
  · refine pm_R_op pm_M62 (pc' := 18) (st' := [.null]) rfl rfl rfl ?_
    refine pm_R_br pm_M62 (pc' := 30) rfl rfl ?_
    refine pm_R_ret pm_M62 (r := some (.null)) rfl rfl ?_
    show pm_R _ 109 5 [.ref 16, .int x1, .int x2, .int x3, .int x4, pm_no, pm_no] [.null] _ _
    refine pm_R_lo pm_M109 (pc' := 7) (ls' := [.ref 16, .int x1, .int x2, .int x3, .int x4, .null, pm_no]) (st' := []) rfl rfl rfl ?_
    refine pm_R_lo pm_M109 (pc' := 8) rfl rfl rfl ?_
    refine pm_R_lo pm_M109 (pc' := 9) rfl rfl rfl ?_
    refine pm_R_cv pm_M109 (pc' := 12) (a := 16) (ra := [.int x2]) (rest := []) (ls' := [.ref 16, .int x2]) rfl rfl (Or.inl rfl) pm_M66 (hh 16 (Nat.le_of_ble_eq_true rfl)) rfl (Nat.le_of_ble_eq_true rfl) (Nat.le_of_ble_eq_true rfl) rfl rfl (Nat.le_of_ble_eq_true rfl) rfl rfl ?_
    refine pm_R_lo pm_M66 (pc' := 1) rfl rfl rfl ?_
    refine pm_R_ifc pm_M66 (t := 17) (pc' := 4) rfl rfl rfl (fun c_2 => ?_) (fun c_2 => ?_)
    · refine pm_R_op pm_M66 (pc' := 18) (st' := [.null]) rfl rfl rfl ?_
      refine pm_R_br pm_M66 (pc' := 30) rfl rfl ?_
      refine pm_R_ret pm_M66 (r := some (.null)) rfl rfl ?_
      show pm_R _ 109 12 [.ref 16, .int x1, .int x2, .int x3, .int x4, .null, pm_no] [.null] _ _
      refine pm_R_lo pm_M109 (pc' := 14) (ls' := [.ref 16, .int x1, .int x2, .int x3, .int x4, .null, .null]) (st' := []) rfl rfl rfl ?_
      refine pm_R_lo pm_M109 (pc' := 16) rfl rfl rfl ?_
      refine pm_R_br pm_M109 (pc' := 31) rfl rfl ?_
      refine pm_R_op pm_M109 (pc' := 33) (st' := [.int (-2)]) rfl rfl rfl ?_
      refine pm_R_ret pm_M109 (r := some (.int (-2))) rfl rfl ?_
      show pm_R _ 0 772 [.ref 0, .ref 16, .ref 41, .int 0] [.int (-2)] _ _
      refine pm_R_lo pm_M0 (pc' := 773) (pm_q0_8 (Nat.le_of_ble_eq_true rfl)) rfl rfl ?_
      refine pm_R_lo pm_M0 (pc' := 774) (pm_q0_8 (Nat.le_of_ble_eq_true rfl)) rfl rfl ?_
      refine pm_R_lo pm_M0 (pc' := 775) (pm_q0_8 (Nat.le_of_ble_eq_true rfl)) rfl rfl ?_
      refine pm_R_op pm_M0 (pc' := 776) (st' := [.int 1, .int 0, .ref 0, .ref 41, .int (-2)]) (pm_q0_8 (Nat.le_of_ble_eq_true rfl)) rfl rfl ?_
      refine pm_R_op pm_M0 (pc' := 777) (st' := [.int 1, .ref 0, .ref 41, .int (-2)]) (pm_q0_8 (Nat.le_of_ble_eq_true rfl)) rfl rfl ?_
      refine pm_R_iald pm_M0 (pc' := 778) (v := x1) (pm_q0_8 (Nat.le_of_ble_eq_true rfl)) (hh 0 (Nat.le_of_ble_eq_true rfl)) (Nat.le_of_ble_eq_true rfl) rfl hx1 rfl ?_
      refine pm_R_lo pm_M0 (pc' := 779) (pm_q0_8 (Nat.le_of_ble_eq_true rfl)) rfl rfl ?_
      refine pm_R_lo pm_M0 (pc' := 780) (pm_q0_8 (Nat.le_of_ble_eq_true rfl)) rfl rfl ?_
      refine pm_R_op pm_M0 (pc' := 781) (st' := [.int 2, .int 0, .ref 0, .int x1, .ref 41, .int (-2)]) (pm_q0_8 (Nat.le_of_ble_eq_true rfl)) rfl rfl ?_
      refine pm_R_op pm_M0 (pc' := 782) (st' := [.int 2, .ref 0, .int x1, .ref 41, .int (-2)]) (pm_q0_8 (Nat.le_of_ble_eq_true rfl)) rfl rfl ?_
      refine pm_R_iald pm_M0 (pc' := 783) (v := x2) (pm_q0_8 (Nat.le_of_ble_eq_true rfl)) (hh 0 (Nat.le_of_ble_eq_true rfl)) (Nat.le_of_ble_eq_true rfl) rfl hx2 rfl ?_
      refine pm_R_lo pm_M0 (pc' := 784) (pm_q0_8 (Nat.le_of_ble_eq_true rfl)) rfl rfl ?_
      refine pm_R_lo pm_M0 (pc' := 785) (pm_q0_8 (Nat.le_of_ble_eq_true rfl)) rfl rfl ?_
      refine pm_R_op pm_M0 (pc' := 786) (st' := [.int 3, .int 0, .ref 0, .int x2, .int x1, .ref 41, .int (-2)]) (pm_q0_8 (Nat.le_of_ble_eq_true rfl)) rfl rfl ?_
      refine pm_R_op pm_M0 (pc' := 787) (st' := [.int 3, .ref 0, .int x2, .int x1, .ref 41, .int (-2)]) (pm_q0_8 (Nat.le_of_ble_eq_true rfl)) rfl rfl ?_
      refine pm_R_iald pm_M0 (pc' := 788) (v := x3) (pm_q0_8 (Nat.le_of_ble_eq_true rfl)) (hh 0 (Nat.le_of_ble_eq_true rfl)) (Nat.le_of_ble_eq_true rfl) rfl hx3 rfl ?_
      refine pm_R_lo pm_M0 (pc' := 789) (pm_q0_8 (Nat.le_of_ble_eq_true rfl)) rfl rfl ?_
      refine pm_R_lo pm_M0 (pc' := 790) (pm_q0_8 (Nat.le_of_ble_eq_true rfl)) rfl rfl ?_
      refine pm_R_op pm_M0 (pc' := 791) (st' := [.int 4, .int 0, .ref 0, .int x3, .int x2, .int x1, .ref 41, .int (-2)]) (pm_q0_8 (Nat.le_of_ble_eq_true rfl)) rfl rfl ?_
      refine pm_R_op pm_M0 (pc' := 792) (st' := [.int 4, .ref 0, .int x3, .int x2, .int x1, .ref 41, .int (-2)]) (pm_q0_8 (Nat.le_of_ble_eq_true rfl)) rfl rfl ?_
      refine pm_R_iald pm_M0 (pc' := 793) (v := x4) (pm_q0_8 (Nat.le_of_ble_eq_true rfl)) (hh 0 (Nat.le_of_ble_eq_true rfl)) (Nat.le_of_ble_eq_true rfl) rfl hx4 rfl ?_
      refine pm_R_cv pm_M0 (pc' := 796) (a := 41) (ra := [.int x4, .int x3, .int x2, .int x1]) (rest := [.int (-2)]) (ls' := [.ref 41, .int x1, .int x2, .int x3, .int x4]) (pm_q0_8 (Nat.le_of_ble_eq_true rfl)) rfl (Or.inl rfl) pm_M233 (hh 41 (Nat.le_of_ble_eq_true rfl)) rfl (Nat.le_of_ble_eq_true rfl) (Nat.le_of_ble_eq_true rfl) rfl rfl (Nat.le_of_ble_eq_true rfl) rfl rfl ?_
      refine pm_R_lo pm_M233 (pc' := 1) rfl rfl rfl ?_
      refine pm_R_op pm_M233 (pc' := 2) (st' := [.int 0, .ref 41]) rfl rfl rfl ?_
      refine pm_R_put pm_M233 (pc' := 5) (fs' := [.int 0, .ref 42, .ref 43, .ref 44, .ref 45, .ref 46, .ref 47, .ref 48, .ref 49, .ref 50, .int 0, .int 0, .int 0, .int 0, .int 0, .long 0, .int 0, .int 0, .int 0, .ref 51, .ref 52, .int 0, .int 0, .int 0, .int 0, .ref 53, .int 0, .int 0, .ref 54, .ref 55, .ref 56, .int 0, .ref 57, .ref 58, .ref 59, .ref 60, .ref 61, .ref 62, .ref 63, .ref 64, .ref 65, .ref 66, .int 0, .int 0, .int 0, .ref 67, .ref 68, .int 0, .ref 69, .int 0, .int 0, .ref 70, .ref 71]) rfl rfl rfl (hh 41 (Nat.le_of_ble_eq_true rfl)) (Nat.le_of_ble_eq_true rfl) (Nat.le_of_ble_eq_true rfl) (Nat.le_of_ble_eq_true rfl) rfl (Or.inl rfl) rfl rfl ?_
      refine pm_R_lo pm_M233 (pc' := 6) rfl rfl rfl ?_
      refine pm_R_op pm_M233 (pc' := 7) (st' := [.int 0, .int x3]) rfl rfl rfl ?_
      refine pm_R_op pm_M233 (pc' := 9) (st' := [.int 9, .int 0, .int x3]) rfl rfl rfl ?_
      refine pm_R_cs pm_M233 (pc' := 12) (ra := [.int 9, .int 0, .int x3]) (rest := []) (ls' := [.int x3, .int 0, .int 9]) rfl rfl (Or.inl rfl) pm_M174 rfl rfl (Nat.le_of_ble_eq_true rfl) rfl rfl ?_
      refine pm_R_lo pm_M174 (pc' := 1) rfl rfl rfl ?_
      refine pm_R_lo pm_M174 (pc' := 2) rfl rfl rfl ?_
      refine pm_R_icmp pm_M174 (t := 14) (pc' := 5) rfl rfl rfl (fun c_3 => ?_) (fun c_3 => ?_)
      · refine pm_R_op pm_M174 (pc' := 15) (st' := [.int 0]) rfl rfl rfl ?_
        refine pm_R_ret pm_M174 (r := some (.int 0)) rfl rfl ?_
        show pm_R _ 233 12 [.ref 41, .int x1, .int x2, .int x3, .int x4] [.int 0] _ _
        refine pm_R_br pm_M233 (pc' := 37) (st' := []) rfl rfl ?_
        refine pm_R_op pm_M233 (pc' := 39) (st' := [.int (-2)]) rfl rfl rfl ?_
        refine pm_R_ret pm_M233 (r := some (.int (-2))) rfl rfl ?_
        show pm_R _ 0 796 [.ref 0, .ref 16, .ref 41, .int 0] [.int (-2), .int (-2)] _ _
        refine pm_R_br pm_M0 (pc' := 2121) (st' := []) (pm_q0_8 (Nat.le_of_ble_eq_true rfl)) rfl ?_
        exact p1_tail (hh 0 (Nat.le_of_ble_eq_true rfl)) (Nat.le_of_ble_eq_true rfl) (Nat.le_of_ble_eq_true rfl) (Nat.le_of_ble_eq_true rfl)
      · refine pm_R_lo pm_M174 (pc' := 6) rfl rfl rfl ?_
        refine pm_R_lo pm_M174 (pc' := 7) rfl rfl rfl ?_
        refine pm_R_icmp pm_M174 (t := 14) (pc' := 10) rfl rfl rfl (fun c_4 => ?_) (fun c_4 => ?_)
        · refine pm_R_op pm_M174 (pc' := 15) (st' := [.int 0]) rfl rfl rfl ?_
          refine pm_R_ret pm_M174 (r := some (.int 0)) rfl rfl ?_
          show pm_R _ 233 12 [.ref 41, .int x1, .int x2, .int x3, .int x4] [.int 0] _ _
          refine pm_R_br pm_M233 (pc' := 37) (st' := []) rfl rfl ?_
          refine pm_R_op pm_M233 (pc' := 39) (st' := [.int (-2)]) rfl rfl rfl ?_
          refine pm_R_ret pm_M233 (r := some (.int (-2))) rfl rfl ?_
          show pm_R _ 0 796 [.ref 0, .ref 16, .ref 41, .int 0] [.int (-2), .int (-2)] _ _
          refine pm_R_br pm_M0 (pc' := 2121) (st' := []) (pm_q0_8 (Nat.le_of_ble_eq_true rfl)) rfl ?_
          exact p1_tail (hh 0 (Nat.le_of_ble_eq_true rfl)) (Nat.le_of_ble_eq_true rfl) (Nat.le_of_ble_eq_true rfl) (Nat.le_of_ble_eq_true rfl)
        · refine pm_R_op pm_M174 (pc' := 11) (st' := [.int 1]) rfl rfl rfl ?_
          refine pm_R_br pm_M174 (pc' := 15) rfl rfl ?_
          refine pm_R_ret pm_M174 (r := some (.int 1)) rfl rfl ?_
          show pm_R _ 233 12 [.ref 41, .int x1, .int x2, .int x3, .int x4] [.int 1] _ _
          refine pm_R_br pm_M233 (pc' := 15) (st' := []) rfl rfl ?_
          refine pm_R_lo pm_M233 (pc' := 16) rfl rfl rfl ?_
          refine pm_R_lo pm_M233 (pc' := 17) rfl rfl rfl ?_
          refine pm_R_lo pm_M233 (pc' := 18) rfl rfl rfl ?_
          refine pm_R_cv pm_M233 (pc' := 21) (a := 41) (ra := [.int x2, .int x1]) (rest := []) (ls' := [.ref 41, .int x1, .int x2]) rfl rfl (Or.inl rfl) pm_M200 rfl rfl (Nat.le_of_ble_eq_true rfl) (Nat.le_of_ble_eq_true rfl) rfl rfl (Nat.le_of_ble_eq_true rfl) rfl rfl ?_
          refine pm_R_lo pm_M200 (pc' := 1) rfl rfl rfl ?_
          refine pm_R_op pm_M200 (pc' := 2) (st' := [.int 0, .ref 41]) rfl rfl rfl ?_
          refine pm_R_lo pm_M200 (pc' := 3) rfl rfl rfl ?_
          refine pm_R_cv pm_M200 (pc' := 6) (a := 41) (ra := [.int x1, .int 0]) (rest := []) (ls' := [.ref 41, .int 0, .int x1]) rfl rfl (Or.inl rfl) pm_M177 rfl rfl (Nat.le_of_ble_eq_true rfl) (Nat.le_of_ble_eq_true rfl) rfl rfl (Nat.le_of_ble_eq_true rfl) rfl rfl ?_
          refine pm_R_lo pm_M177 (pc' := 1) rfl rfl rfl ?_
          refine pm_R_op pm_M177 (pc' := 2) (st' := [.int 0, .int x1]) rfl rfl rfl ?_
          refine pm_R_lo pm_M177 (pc' := 3) rfl rfl rfl ?_
          refine pm_R_get pm_M177 (pc' := 6) (v := .ref 46) rfl rfl rfl (Nat.le_of_ble_eq_true rfl) (Nat.le_of_ble_eq_true rfl) rfl rfl ?_
          refine pm_R_lo pm_M177 (pc' := 7) rfl rfl rfl ?_
          refine pm_R_iald pm_M177 (pc' := 8) (v := 0) rfl (hh 46 (Nat.le_of_ble_eq_true rfl)) (Nat.le_of_ble_eq_true rfl) rfl rfl rfl ?_
          refine pm_R_op pm_M177 (pc' := 9) (st' := [.int 1, .int 0, .int 0, .int x1]) rfl rfl rfl ?_
          refine pm_R_op pm_M177 (pc' := 10) (st' := [.int (-1), .int 0, .int x1]) rfl rfl rfl ?_
          refine pm_R_cs pm_M177 (pc' := 13) (ra := [.int (-1), .int 0, .int x1]) (rest := []) (ls' := [.int x1, .int 0, .int (-1)]) rfl rfl (Or.inl rfl) pm_M174 rfl rfl (Nat.le_of_ble_eq_true rfl) rfl rfl ?_
          refine pm_R_lo pm_M174 (pc' := 1) rfl rfl rfl ?_
          refine pm_R_lo pm_M174 (pc' := 2) rfl rfl rfl ?_
          refine pm_R_icmp pm_M174 (t := 14) (pc' := 5) rfl rfl rfl (fun c_5 => ?_) (fun c_5 => by exact absurd c_1 c_5)
          refine pm_R_op pm_M174 (pc' := 15) (st' := [.int 0]) rfl rfl rfl ?_
          refine pm_R_ret pm_M174 (r := some (.int 0)) rfl rfl ?_
          show pm_R _ 177 13 [.ref 41, .int 0, .int x1] [.int 0] _ _
          refine pm_R_ret pm_M177 (r := some (.int 0)) rfl rfl ?_
          show pm_R _ 200 6 [.ref 41, .int x1, .int x2] [.int 0] _ _
          refine pm_R_br pm_M200 (pc' := 18) (st' := []) rfl rfl ?_
          refine pm_R_op pm_M200 (pc' := 19) (st' := [.int 0]) rfl rfl rfl ?_
          refine pm_R_ret pm_M200 (r := some (.int 0)) rfl rfl ?_
          show pm_R _ 233 21 [.ref 41, .int x1, .int x2, .int x3, .int x4] [.int 0] _ _
          refine pm_R_br pm_M233 (pc' := 37) (st' := []) rfl rfl ?_
          refine pm_R_op pm_M233 (pc' := 39) (st' := [.int (-2)]) rfl rfl rfl ?_
          refine pm_R_ret pm_M233 (r := some (.int (-2))) rfl rfl ?_
          show pm_R _ 0 796 [.ref 0, .ref 16, .ref 41, .int 0] [.int (-2), .int (-2)] _ _
          refine pm_R_br pm_M0 (pc' := 2121) (st' := []) (pm_q0_8 (Nat.le_of_ble_eq_true rfl)) rfl ?_
          exact p1_tail (hh 0 (Nat.le_of_ble_eq_true rfl)) (Nat.le_of_ble_eq_true rfl) (Nat.le_of_ble_eq_true rfl) (Nat.le_of_ble_eq_true rfl)
    · refine pm_R_lo pm_M66 (pc' := 5) rfl rfl rfl ?_
      refine pm_R_lo pm_M66 (pc' := 6) rfl rfl rfl ?_
      refine pm_R_get pm_M66 (pc' := 9) (v := .ref 17) rfl rfl (hh 16 (Nat.le_of_ble_eq_true rfl)) (Nat.le_of_ble_eq_true rfl) (Nat.le_of_ble_eq_true rfl) rfl rfl ?_
      refine pm_R_get pm_M66 (pc' := 12) (v := .ref 23) rfl rfl (hh 17 (Nat.le_of_ble_eq_true rfl)) (Nat.le_of_ble_eq_true rfl) (Nat.le_of_ble_eq_true rfl) rfl rfl ?_
      refine pm_R_op pm_M66 (pc' := 13) (st' := [.int 1, .ref 23, .int x2]) rfl rfl rfl ?_
      refine pm_R_iald pm_M66 (pc' := 14) (v := 0) rfl (hh 23 (Nat.le_of_ble_eq_true rfl)) (Nat.le_of_ble_eq_true rfl) rfl rfl rfl ?_
      refine pm_R_icmp pm_M66 (t := 21) (pc' := 17) rfl rfl rfl (fun c_6 => by exact absurd c_6 c_2) (fun c_6 => ?_)
      refine pm_R_op pm_M66 (pc' := 18) (st' := [.null]) rfl rfl rfl ?_
      refine pm_R_br pm_M66 (pc' := 30) rfl rfl ?_
      refine pm_R_ret pm_M66 (r := some (.null)) rfl rfl ?_
      show pm_R _ 109 12 [.ref 16, .int x1, .int x2, .int x3, .int x4, .null, pm_no] [.null] _ _
      refine pm_R_lo pm_M109 (pc' := 14) (ls' := [.ref 16, .int x1, .int x2, .int x3, .int x4, .null, .null]) (st' := []) rfl rfl rfl ?_
      refine pm_R_lo pm_M109 (pc' := 16) rfl rfl rfl ?_
      refine pm_R_br pm_M109 (pc' := 31) rfl rfl ?_
      refine pm_R_op pm_M109 (pc' := 33) (st' := [.int (-2)]) rfl rfl rfl ?_
      refine pm_R_ret pm_M109 (r := some (.int (-2))) rfl rfl ?_
      show pm_R _ 0 772 [.ref 0, .ref 16, .ref 41, .int 0] [.int (-2)] _ _
      refine pm_R_lo pm_M0 (pc' := 773) (pm_q0_8 (Nat.le_of_ble_eq_true rfl)) rfl rfl ?_
      refine pm_R_lo pm_M0 (pc' := 774) (pm_q0_8 (Nat.le_of_ble_eq_true rfl)) rfl rfl ?_
      refine pm_R_lo pm_M0 (pc' := 775) (pm_q0_8 (Nat.le_of_ble_eq_true rfl)) rfl rfl ?_
      refine pm_R_op pm_M0 (pc' := 776) (st' := [.int 1, .int 0, .ref 0, .ref 41, .int (-2)]) (pm_q0_8 (Nat.le_of_ble_eq_true rfl)) rfl rfl ?_
      refine pm_R_op pm_M0 (pc' := 777) (st' := [.int 1, .ref 0, .ref 41, .int (-2)]) (pm_q0_8 (Nat.le_of_ble_eq_true rfl)) rfl rfl ?_
      refine pm_R_iald pm_M0 (pc' := 778) (v := x1) (pm_q0_8 (Nat.le_of_ble_eq_true rfl)) (hh 0 (Nat.le_of_ble_eq_true rfl)) (Nat.le_of_ble_eq_true rfl) rfl hx1 rfl ?_
      refine pm_R_lo pm_M0 (pc' := 779) (pm_q0_8 (Nat.le_of_ble_eq_true rfl)) rfl rfl ?_
      refine pm_R_lo pm_M0 (pc' := 780) (pm_q0_8 (Nat.le_of_ble_eq_true rfl)) rfl rfl ?_
      refine pm_R_op pm_M0 (pc' := 781) (st' := [.int 2, .int 0, .ref 0, .int x1, .ref 41, .int (-2)]) (pm_q0_8 (Nat.le_of_ble_eq_true rfl)) rfl rfl ?_
      refine pm_R_op pm_M0 (pc' := 782) (st' := [.int 2, .ref 0, .int x1, .ref 41, .int (-2)]) (pm_q0_8 (Nat.le_of_ble_eq_true rfl)) rfl rfl ?_
      refine pm_R_iald pm_M0 (pc' := 783) (v := x2) (pm_q0_8 (Nat.le_of_ble_eq_true rfl)) (hh 0 (Nat.le_of_ble_eq_true rfl)) (Nat.le_of_ble_eq_true rfl) rfl hx2 rfl ?_
      refine pm_R_lo pm_M0 (pc' := 784) (pm_q0_8 (Nat.le_of_ble_eq_true rfl)) rfl rfl ?_
      refine pm_R_lo pm_M0 (pc' := 785) (pm_q0_8 (Nat.le_of_ble_eq_true rfl)) rfl rfl ?_
      refine pm_R_op pm_M0 (pc' := 786) (st' := [.int 3, .int 0, .ref 0, .int x2, .int x1, .ref 41, .int (-2)]) (pm_q0_8 (Nat.le_of_ble_eq_true rfl)) rfl rfl ?_
      refine pm_R_op pm_M0 (pc' := 787) (st' := [.int 3, .ref 0, .int x2, .int x1, .ref 41, .int (-2)]) (pm_q0_8 (Nat.le_of_ble_eq_true rfl)) rfl rfl ?_
      refine pm_R_iald pm_M0 (pc' := 788) (v := x3) (pm_q0_8 (Nat.le_of_ble_eq_true rfl)) (hh 0 (Nat.le_of_ble_eq_true rfl)) (Nat.le_of_ble_eq_true rfl) rfl hx3 rfl ?_
      refine pm_R_lo pm_M0 (pc' := 789) (pm_q0_8 (Nat.le_of_ble_eq_true rfl)) rfl rfl ?_
      refine pm_R_lo pm_M0 (pc' := 790) (pm_q0_8 (Nat.le_of_ble_eq_true rfl)) rfl rfl ?_
      refine pm_R_op pm_M0 (pc' := 791) (st' := [.int 4, .int 0, .ref 0, .int x3, .int x2, .int x1, .ref 41, .int (-2)]) (pm_q0_8 (Nat.le_of_ble_eq_true rfl)) rfl rfl ?_
      refine pm_R_op pm_M0 (pc' := 792) (st' := [.int 4, .ref 0, .int x3, .int x2, .int x1, .ref 41, .int (-2)]) (pm_q0_8 (Nat.le_of_ble_eq_true rfl)) rfl rfl ?_
      refine pm_R_iald pm_M0 (pc' := 793) (v := x4) (pm_q0_8 (Nat.le_of_ble_eq_true rfl)) (hh 0 (Nat.le_of_ble_eq_true rfl)) (Nat.le_of_ble_eq_true rfl) rfl hx4 rfl ?_
      refine pm_R_cv pm_M0 (pc' := 796) (a := 41) (ra := [.int x4, .int x3, .int x2, .int x1]) (rest := [.int (-2)]) (ls' := [.ref 41, .int x1, .int x2, .int x3, .int x4]) (pm_q0_8 (Nat.le_of_ble_eq_true rfl)) rfl (Or.inl rfl) pm_M233 (hh 41 (Nat.le_of_ble_eq_true rfl)) rfl (Nat.le_of_ble_eq_true rfl) (Nat.le_of_ble_eq_true rfl) rfl rfl (Nat.le_of_ble_eq_true rfl) rfl rfl ?_
      refine pm_R_lo pm_M233 (pc' := 1) rfl rfl rfl ?_
      refine pm_R_op pm_M233 (pc' := 2) (st' := [.int 0, .ref 41]) rfl rfl rfl ?_
      refine pm_R_put pm_M233 (pc' := 5) (fs' := [.int 0, .ref 42, .ref 43, .ref 44, .ref 45, .ref 46, .ref 47, .ref 48, .ref 49, .ref 50, .int 0, .int 0, .int 0, .int 0, .int 0, .long 0, .int 0, .int 0, .int 0, .ref 51, .ref 52, .int 0, .int 0, .int 0, .int 0, .ref 53, .int 0, .int 0, .ref 54, .ref 55, .ref 56, .int 0, .ref 57, .ref 58, .ref 59, .ref 60, .ref 61, .ref 62, .ref 63, .ref 64, .ref 65, .ref 66, .int 0, .int 0, .int 0, .ref 67, .ref 68, .int 0, .ref 69, .int 0, .int 0, .ref 70, .ref 71]) rfl rfl rfl (hh 41 (Nat.le_of_ble_eq_true rfl)) (Nat.le_of_ble_eq_true rfl) (Nat.le_of_ble_eq_true rfl) (Nat.le_of_ble_eq_true rfl) rfl (Or.inl rfl) rfl rfl ?_
      refine pm_R_lo pm_M233 (pc' := 6) rfl rfl rfl ?_
      refine pm_R_op pm_M233 (pc' := 7) (st' := [.int 0, .int x3]) rfl rfl rfl ?_
      refine pm_R_op pm_M233 (pc' := 9) (st' := [.int 9, .int 0, .int x3]) rfl rfl rfl ?_
      refine pm_R_cs pm_M233 (pc' := 12) (ra := [.int 9, .int 0, .int x3]) (rest := []) (ls' := [.int x3, .int 0, .int 9]) rfl rfl (Or.inl rfl) pm_M174 rfl rfl (Nat.le_of_ble_eq_true rfl) rfl rfl ?_
      refine pm_R_lo pm_M174 (pc' := 1) rfl rfl rfl ?_
      refine pm_R_lo pm_M174 (pc' := 2) rfl rfl rfl ?_
      refine pm_R_icmp pm_M174 (t := 14) (pc' := 5) rfl rfl rfl (fun c_7 => ?_) (fun c_7 => ?_)
      · refine pm_R_op pm_M174 (pc' := 15) (st' := [.int 0]) rfl rfl rfl ?_
        refine pm_R_ret pm_M174 (r := some (.int 0)) rfl rfl ?_
        show pm_R _ 233 12 [.ref 41, .int x1, .int x2, .int x3, .int x4] [.int 0] _ _
        refine pm_R_br pm_M233 (pc' := 37) (st' := []) rfl rfl ?_
        refine pm_R_op pm_M233 (pc' := 39) (st' := [.int (-2)]) rfl rfl rfl ?_
        refine pm_R_ret pm_M233 (r := some (.int (-2))) rfl rfl ?_
        show pm_R _ 0 796 [.ref 0, .ref 16, .ref 41, .int 0] [.int (-2), .int (-2)] _ _
        refine pm_R_br pm_M0 (pc' := 2121) (st' := []) (pm_q0_8 (Nat.le_of_ble_eq_true rfl)) rfl ?_
        exact p1_tail (hh 0 (Nat.le_of_ble_eq_true rfl)) (Nat.le_of_ble_eq_true rfl) (Nat.le_of_ble_eq_true rfl) (Nat.le_of_ble_eq_true rfl)
      · refine pm_R_lo pm_M174 (pc' := 6) rfl rfl rfl ?_
        refine pm_R_lo pm_M174 (pc' := 7) rfl rfl rfl ?_
        refine pm_R_icmp pm_M174 (t := 14) (pc' := 10) rfl rfl rfl (fun c_8 => ?_) (fun c_8 => ?_)
        · refine pm_R_op pm_M174 (pc' := 15) (st' := [.int 0]) rfl rfl rfl ?_
          refine pm_R_ret pm_M174 (r := some (.int 0)) rfl rfl ?_
          show pm_R _ 233 12 [.ref 41, .int x1, .int x2, .int x3, .int x4] [.int 0] _ _
          refine pm_R_br pm_M233 (pc' := 37) (st' := []) rfl rfl ?_
          refine pm_R_op pm_M233 (pc' := 39) (st' := [.int (-2)]) rfl rfl rfl ?_
          refine pm_R_ret pm_M233 (r := some (.int (-2))) rfl rfl ?_
          show pm_R _ 0 796 [.ref 0, .ref 16, .ref 41, .int 0] [.int (-2), .int (-2)] _ _
          refine pm_R_br pm_M0 (pc' := 2121) (st' := []) (pm_q0_8 (Nat.le_of_ble_eq_true rfl)) rfl ?_
          exact p1_tail (hh 0 (Nat.le_of_ble_eq_true rfl)) (Nat.le_of_ble_eq_true rfl) (Nat.le_of_ble_eq_true rfl) (Nat.le_of_ble_eq_true rfl)
        · refine pm_R_op pm_M174 (pc' := 11) (st' := [.int 1]) rfl rfl rfl ?_
          refine pm_R_br pm_M174 (pc' := 15) rfl rfl ?_
          refine pm_R_ret pm_M174 (r := some (.int 1)) rfl rfl ?_
          show pm_R _ 233 12 [.ref 41, .int x1, .int x2, .int x3, .int x4] [.int 1] _ _
          refine pm_R_br pm_M233 (pc' := 15) (st' := []) rfl rfl ?_
          refine pm_R_lo pm_M233 (pc' := 16) rfl rfl rfl ?_
          refine pm_R_lo pm_M233 (pc' := 17) rfl rfl rfl ?_
          refine pm_R_lo pm_M233 (pc' := 18) rfl rfl rfl ?_
          refine pm_R_cv pm_M233 (pc' := 21) (a := 41) (ra := [.int x2, .int x1]) (rest := []) (ls' := [.ref 41, .int x1, .int x2]) rfl rfl (Or.inl rfl) pm_M200 rfl rfl (Nat.le_of_ble_eq_true rfl) (Nat.le_of_ble_eq_true rfl) rfl rfl (Nat.le_of_ble_eq_true rfl) rfl rfl ?_
          refine pm_R_lo pm_M200 (pc' := 1) rfl rfl rfl ?_
          refine pm_R_op pm_M200 (pc' := 2) (st' := [.int 0, .ref 41]) rfl rfl rfl ?_
          refine pm_R_lo pm_M200 (pc' := 3) rfl rfl rfl ?_
          refine pm_R_cv pm_M200 (pc' := 6) (a := 41) (ra := [.int x1, .int 0]) (rest := []) (ls' := [.ref 41, .int 0, .int x1]) rfl rfl (Or.inl rfl) pm_M177 rfl rfl (Nat.le_of_ble_eq_true rfl) (Nat.le_of_ble_eq_true rfl) rfl rfl (Nat.le_of_ble_eq_true rfl) rfl rfl ?_
          refine pm_R_lo pm_M177 (pc' := 1) rfl rfl rfl ?_
          refine pm_R_op pm_M177 (pc' := 2) (st' := [.int 0, .int x1]) rfl rfl rfl ?_
          refine pm_R_lo pm_M177 (pc' := 3) rfl rfl rfl ?_
          refine pm_R_get pm_M177 (pc' := 6) (v := .ref 46) rfl rfl rfl (Nat.le_of_ble_eq_true rfl) (Nat.le_of_ble_eq_true rfl) rfl rfl ?_
          refine pm_R_lo pm_M177 (pc' := 7) rfl rfl rfl ?_
          refine pm_R_iald pm_M177 (pc' := 8) (v := 0) rfl (hh 46 (Nat.le_of_ble_eq_true rfl)) (Nat.le_of_ble_eq_true rfl) rfl rfl rfl ?_
          refine pm_R_op pm_M177 (pc' := 9) (st' := [.int 1, .int 0, .int 0, .int x1]) rfl rfl rfl ?_
          refine pm_R_op pm_M177 (pc' := 10) (st' := [.int (-1), .int 0, .int x1]) rfl rfl rfl ?_
          refine pm_R_cs pm_M177 (pc' := 13) (ra := [.int (-1), .int 0, .int x1]) (rest := []) (ls' := [.int x1, .int 0, .int (-1)]) rfl rfl (Or.inl rfl) pm_M174 rfl rfl (Nat.le_of_ble_eq_true rfl) rfl rfl ?_
          refine pm_R_lo pm_M174 (pc' := 1) rfl rfl rfl ?_
          refine pm_R_lo pm_M174 (pc' := 2) rfl rfl rfl ?_
          refine pm_R_icmp pm_M174 (t := 14) (pc' := 5) rfl rfl rfl (fun c_9 => ?_) (fun c_9 => by exact absurd c_1 c_9)
          refine pm_R_op pm_M174 (pc' := 15) (st' := [.int 0]) rfl rfl rfl ?_
          refine pm_R_ret pm_M174 (r := some (.int 0)) rfl rfl ?_
          show pm_R _ 177 13 [.ref 41, .int 0, .int x1] [.int 0] _ _
          refine pm_R_ret pm_M177 (r := some (.int 0)) rfl rfl ?_
          show pm_R _ 200 6 [.ref 41, .int x1, .int x2] [.int 0] _ _
          refine pm_R_br pm_M200 (pc' := 18) (st' := []) rfl rfl ?_
          refine pm_R_op pm_M200 (pc' := 19) (st' := [.int 0]) rfl rfl rfl ?_
          refine pm_R_ret pm_M200 (r := some (.int 0)) rfl rfl ?_
          show pm_R _ 233 21 [.ref 41, .int x1, .int x2, .int x3, .int x4] [.int 0] _ _
          refine pm_R_br pm_M233 (pc' := 37) (st' := []) rfl rfl ?_
          refine pm_R_op pm_M233 (pc' := 39) (st' := [.int (-2)]) rfl rfl rfl ?_
          refine pm_R_ret pm_M233 (r := some (.int (-2))) rfl rfl ?_
          show pm_R _ 0 796 [.ref 0, .ref 16, .ref 41, .int 0] [.int (-2), .int (-2)] _ _
          refine pm_R_br pm_M0 (pc' := 2121) (st' := []) (pm_q0_8 (Nat.le_of_ble_eq_true rfl)) rfl ?_
          exact p1_tail (hh 0 (Nat.le_of_ble_eq_true rfl)) (Nat.le_of_ble_eq_true rfl) (Nat.le_of_ble_eq_true rfl) (Nat.le_of_ble_eq_true rfl)
  · refine pm_R_lo pm_M62 (pc' := 5) rfl rfl rfl ?_
    refine pm_R_lo pm_M62 (pc' := 6) rfl rfl rfl ?_
    refine pm_R_get pm_M62 (pc' := 9) (v := .ref 17) rfl rfl (hh 16 (Nat.le_of_ble_eq_true rfl)) (Nat.le_of_ble_eq_true rfl) (Nat.le_of_ble_eq_true rfl) rfl rfl ?_
    refine pm_R_get pm_M62 (pc' := 12) (v := .ref 23) rfl rfl (hh 17 (Nat.le_of_ble_eq_true rfl)) (Nat.le_of_ble_eq_true rfl) (Nat.le_of_ble_eq_true rfl) rfl rfl ?_
    refine pm_R_op pm_M62 (pc' := 13) (st' := [.int 0, .ref 23, .int x1]) rfl rfl rfl ?_
    refine pm_R_iald pm_M62 (pc' := 14) (v := 0) rfl (hh 23 (Nat.le_of_ble_eq_true rfl)) (Nat.le_of_ble_eq_true rfl) rfl rfl rfl ?_
    refine pm_R_icmp pm_M62 (t := 21) (pc' := 17) rfl rfl rfl (fun c_10 => by exact absurd c_10 c_1) (fun c_10 => ?_)
    refine pm_R_op pm_M62 (pc' := 18) (st' := [.null]) rfl rfl rfl ?_
    refine pm_R_br pm_M62 (pc' := 30) rfl rfl ?_
    refine pm_R_ret pm_M62 (r := some (.null)) rfl rfl ?_
    show pm_R _ 109 5 [.ref 16, .int x1, .int x2, .int x3, .int x4, pm_no, pm_no] [.null] _ _
    refine pm_R_lo pm_M109 (pc' := 7) (ls' := [.ref 16, .int x1, .int x2, .int x3, .int x4, .null, pm_no]) (st' := []) rfl rfl rfl ?_
    refine pm_R_lo pm_M109 (pc' := 8) rfl rfl rfl ?_
    refine pm_R_lo pm_M109 (pc' := 9) rfl rfl rfl ?_
    refine pm_R_cv pm_M109 (pc' := 12) (a := 16) (ra := [.int x2]) (rest := []) (ls' := [.ref 16, .int x2]) rfl rfl (Or.inl rfl) pm_M66 (hh 16 (Nat.le_of_ble_eq_true rfl)) rfl (Nat.le_of_ble_eq_true rfl) (Nat.le_of_ble_eq_true rfl) rfl rfl (Nat.le_of_ble_eq_true rfl) rfl rfl ?_
    refine pm_R_lo pm_M66 (pc' := 1) rfl rfl rfl ?_
    refine pm_R_ifc pm_M66 (t := 17) (pc' := 4) rfl rfl rfl (fun c_11 => ?_) (fun c_11 => ?_)
    · refine pm_R_op pm_M66 (pc' := 18) (st' := [.null]) rfl rfl rfl ?_
      refine pm_R_br pm_M66 (pc' := 30) rfl rfl ?_
      refine pm_R_ret pm_M66 (r := some (.null)) rfl rfl ?_
      show pm_R _ 109 12 [.ref 16, .int x1, .int x2, .int x3, .int x4, .null, pm_no] [.null] _ _
      refine pm_R_lo pm_M109 (pc' := 14) (ls' := [.ref 16, .int x1, .int x2, .int x3, .int x4, .null, .null]) (st' := []) rfl rfl rfl ?_
      refine pm_R_lo pm_M109 (pc' := 16) rfl rfl rfl ?_
      refine pm_R_br pm_M109 (pc' := 31) rfl rfl ?_
      refine pm_R_op pm_M109 (pc' := 33) (st' := [.int (-2)]) rfl rfl rfl ?_
      refine pm_R_ret pm_M109 (r := some (.int (-2))) rfl rfl ?_
      show pm_R _ 0 772 [.ref 0, .ref 16, .ref 41, .int 0] [.int (-2)] _ _
      refine pm_R_lo pm_M0 (pc' := 773) (pm_q0_8 (Nat.le_of_ble_eq_true rfl)) rfl rfl ?_
      refine pm_R_lo pm_M0 (pc' := 774) (pm_q0_8 (Nat.le_of_ble_eq_true rfl)) rfl rfl ?_
      refine pm_R_lo pm_M0 (pc' := 775) (pm_q0_8 (Nat.le_of_ble_eq_true rfl)) rfl rfl ?_
      refine pm_R_op pm_M0 (pc' := 776) (st' := [.int 1, .int 0, .ref 0, .ref 41, .int (-2)]) (pm_q0_8 (Nat.le_of_ble_eq_true rfl)) rfl rfl ?_
      refine pm_R_op pm_M0 (pc' := 777) (st' := [.int 1, .ref 0, .ref 41, .int (-2)]) (pm_q0_8 (Nat.le_of_ble_eq_true rfl)) rfl rfl ?_
      refine pm_R_iald pm_M0 (pc' := 778) (v := x1) (pm_q0_8 (Nat.le_of_ble_eq_true rfl)) (hh 0 (Nat.le_of_ble_eq_true rfl)) (Nat.le_of_ble_eq_true rfl) rfl hx1 rfl ?_
      refine pm_R_lo pm_M0 (pc' := 779) (pm_q0_8 (Nat.le_of_ble_eq_true rfl)) rfl rfl ?_
      refine pm_R_lo pm_M0 (pc' := 780) (pm_q0_8 (Nat.le_of_ble_eq_true rfl)) rfl rfl ?_
      refine pm_R_op pm_M0 (pc' := 781) (st' := [.int 2, .int 0, .ref 0, .int x1, .ref 41, .int (-2)]) (pm_q0_8 (Nat.le_of_ble_eq_true rfl)) rfl rfl ?_
      refine pm_R_op pm_M0 (pc' := 782) (st' := [.int 2, .ref 0, .int x1, .ref 41, .int (-2)]) (pm_q0_8 (Nat.le_of_ble_eq_true rfl)) rfl rfl ?_
      refine pm_R_iald pm_M0 (pc' := 783) (v := x2) (pm_q0_8 (Nat.le_of_ble_eq_true rfl)) (hh 0 (Nat.le_of_ble_eq_true rfl)) (Nat.le_of_ble_eq_true rfl) rfl hx2 rfl ?_
      refine pm_R_lo pm_M0 (pc' := 784) (pm_q0_8 (Nat.le_of_ble_eq_true rfl)) rfl rfl ?_
      refine pm_R_lo pm_M0 (pc' := 785) (pm_q0_8 (Nat.le_of_ble_eq_true rfl)) rfl rfl ?_
      refine pm_R_op pm_M0 (pc' := 786) (st' := [.int 3, .int 0, .ref 0, .int x2, .int x1, .ref 41, .int (-2)]) (pm_q0_8 (Nat.le_of_ble_eq_true rfl)) rfl rfl ?_
      refine pm_R_op pm_M0 (pc' := 787) (st' := [.int 3, .ref 0, .int x2, .int x1, .ref 41, .int (-2)]) (pm_q0_8 (Nat.le_of_ble_eq_true rfl)) rfl rfl ?_
      refine pm_R_iald pm_M0 (pc' := 788) (v := x3) (pm_q0_8 (Nat.le_of_ble_eq_true rfl)) (hh 0 (Nat.le_of_ble_eq_true rfl)) (Nat.le_of_ble_eq_true rfl) rfl hx3 rfl ?_
      refine pm_R_lo pm_M0 (pc' := 789) (pm_q0_8 (Nat.le_of_ble_eq_true rfl)) rfl rfl ?_
      refine pm_R_lo pm_M0 (pc' := 790) (pm_q0_8 (Nat.le_of_ble_eq_true rfl)) rfl rfl ?_
      refine pm_R_op pm_M0 (pc' := 791) (st' := [.int 4, .int 0, .ref 0, .int x3, .int x2, .int x1, .ref 41, .int (-2)]) (pm_q0_8 (Nat.le_of_ble_eq_true rfl)) rfl rfl ?_
      refine pm_R_op pm_M0 (pc' := 792) (st' := [.int 4, .ref 0, .int x3, .int x2, .int x1, .ref 41, .int (-2)]) (pm_q0_8 (Nat.le_of_ble_eq_true rfl)) rfl rfl ?_
      refine pm_R_iald pm_M0 (pc' := 793) (v := x4) (pm_q0_8 (Nat.le_of_ble_eq_true rfl)) (hh 0 (Nat.le_of_ble_eq_true rfl)) (Nat.le_of_ble_eq_true rfl) rfl hx4 rfl ?_
      refine pm_R_cv pm_M0 (pc' := 796) (a := 41) (ra := [.int x4, .int x3, .int x2, .int x1]) (rest := [.int (-2)]) (ls' := [.ref 41, .int x1, .int x2, .int x3, .int x4]) (pm_q0_8 (Nat.le_of_ble_eq_true rfl)) rfl (Or.inl rfl) pm_M233 (hh 41 (Nat.le_of_ble_eq_true rfl)) rfl (Nat.le_of_ble_eq_true rfl) (Nat.le_of_ble_eq_true rfl) rfl rfl (Nat.le_of_ble_eq_true rfl) rfl rfl ?_
      refine pm_R_lo pm_M233 (pc' := 1) rfl rfl rfl ?_
      refine pm_R_op pm_M233 (pc' := 2) (st' := [.int 0, .ref 41]) rfl rfl rfl ?_
      refine pm_R_put pm_M233 (pc' := 5) (fs' := [.int 0, .ref 42, .ref 43, .ref 44, .ref 45, .ref 46, .ref 47, .ref 48, .ref 49, .ref 50, .int 0, .int 0, .int 0, .int 0, .int 0, .long 0, .int 0, .int 0, .int 0, .ref 51, .ref 52, .int 0, .int 0, .int 0, .int 0, .ref 53, .int 0, .int 0, .ref 54, .ref 55, .ref 56, .int 0, .ref 57, .ref 58, .ref 59, .ref 60, .ref 61, .ref 62, .ref 63, .ref 64, .ref 65, .ref 66, .int 0, .int 0, .int 0, .ref 67, .ref 68, .int 0, .ref 69, .int 0, .int 0, .ref 70, .ref 71]) rfl rfl rfl (hh 41 (Nat.le_of_ble_eq_true rfl)) (Nat.le_of_ble_eq_true rfl) (Nat.le_of_ble_eq_true rfl) (Nat.le_of_ble_eq_true rfl) rfl (Or.inl rfl) rfl rfl ?_
      refine pm_R_lo pm_M233 (pc' := 6) rfl rfl rfl ?_
      refine pm_R_op pm_M233 (pc' := 7) (st' := [.int 0, .int x3]) rfl rfl rfl ?_
      refine pm_R_op pm_M233 (pc' := 9) (st' := [.int 9, .int 0, .int x3]) rfl rfl rfl ?_
      refine pm_R_cs pm_M233 (pc' := 12) (ra := [.int 9, .int 0, .int x3]) (rest := []) (ls' := [.int x3, .int 0, .int 9]) rfl rfl (Or.inl rfl) pm_M174 rfl rfl (Nat.le_of_ble_eq_true rfl) rfl rfl ?_
      refine pm_R_lo pm_M174 (pc' := 1) rfl rfl rfl ?_
      refine pm_R_lo pm_M174 (pc' := 2) rfl rfl rfl ?_
      refine pm_R_icmp pm_M174 (t := 14) (pc' := 5) rfl rfl rfl (fun c_12 => ?_) (fun c_12 => ?_)
      · refine pm_R_op pm_M174 (pc' := 15) (st' := [.int 0]) rfl rfl rfl ?_
        refine pm_R_ret pm_M174 (r := some (.int 0)) rfl rfl ?_
        show pm_R _ 233 12 [.ref 41, .int x1, .int x2, .int x3, .int x4] [.int 0] _ _
        refine pm_R_br pm_M233 (pc' := 37) (st' := []) rfl rfl ?_
        refine pm_R_op pm_M233 (pc' := 39) (st' := [.int (-2)]) rfl rfl rfl ?_
        refine pm_R_ret pm_M233 (r := some (.int (-2))) rfl rfl ?_
        show pm_R _ 0 796 [.ref 0, .ref 16, .ref 41, .int 0] [.int (-2), .int (-2)] _ _
        refine pm_R_br pm_M0 (pc' := 2121) (st' := []) (pm_q0_8 (Nat.le_of_ble_eq_true rfl)) rfl ?_
        exact p1_tail (hh 0 (Nat.le_of_ble_eq_true rfl)) (Nat.le_of_ble_eq_true rfl) (Nat.le_of_ble_eq_true rfl) (Nat.le_of_ble_eq_true rfl)
      · refine pm_R_lo pm_M174 (pc' := 6) rfl rfl rfl ?_
        refine pm_R_lo pm_M174 (pc' := 7) rfl rfl rfl ?_
        refine pm_R_icmp pm_M174 (t := 14) (pc' := 10) rfl rfl rfl (fun c_13 => ?_) (fun c_13 => ?_)
        · refine pm_R_op pm_M174 (pc' := 15) (st' := [.int 0]) rfl rfl rfl ?_
          refine pm_R_ret pm_M174 (r := some (.int 0)) rfl rfl ?_
          show pm_R _ 233 12 [.ref 41, .int x1, .int x2, .int x3, .int x4] [.int 0] _ _
          refine pm_R_br pm_M233 (pc' := 37) (st' := []) rfl rfl ?_
          refine pm_R_op pm_M233 (pc' := 39) (st' := [.int (-2)]) rfl rfl rfl ?_
          refine pm_R_ret pm_M233 (r := some (.int (-2))) rfl rfl ?_
          show pm_R _ 0 796 [.ref 0, .ref 16, .ref 41, .int 0] [.int (-2), .int (-2)] _ _
          refine pm_R_br pm_M0 (pc' := 2121) (st' := []) (pm_q0_8 (Nat.le_of_ble_eq_true rfl)) rfl ?_
          exact p1_tail (hh 0 (Nat.le_of_ble_eq_true rfl)) (Nat.le_of_ble_eq_true rfl) (Nat.le_of_ble_eq_true rfl) (Nat.le_of_ble_eq_true rfl)
        · refine pm_R_op pm_M174 (pc' := 11) (st' := [.int 1]) rfl rfl rfl ?_
          refine pm_R_br pm_M174 (pc' := 15) rfl rfl ?_
          refine pm_R_ret pm_M174 (r := some (.int 1)) rfl rfl ?_
          show pm_R _ 233 12 [.ref 41, .int x1, .int x2, .int x3, .int x4] [.int 1] _ _
          refine pm_R_br pm_M233 (pc' := 15) (st' := []) rfl rfl ?_
          refine pm_R_lo pm_M233 (pc' := 16) rfl rfl rfl ?_
          refine pm_R_lo pm_M233 (pc' := 17) rfl rfl rfl ?_
          refine pm_R_lo pm_M233 (pc' := 18) rfl rfl rfl ?_
          refine pm_R_cv pm_M233 (pc' := 21) (a := 41) (ra := [.int x2, .int x1]) (rest := []) (ls' := [.ref 41, .int x1, .int x2]) rfl rfl (Or.inl rfl) pm_M200 rfl rfl (Nat.le_of_ble_eq_true rfl) (Nat.le_of_ble_eq_true rfl) rfl rfl (Nat.le_of_ble_eq_true rfl) rfl rfl ?_
          refine pm_R_lo pm_M200 (pc' := 1) rfl rfl rfl ?_
          refine pm_R_op pm_M200 (pc' := 2) (st' := [.int 0, .ref 41]) rfl rfl rfl ?_
          refine pm_R_lo pm_M200 (pc' := 3) rfl rfl rfl ?_
          refine pm_R_cv pm_M200 (pc' := 6) (a := 41) (ra := [.int x1, .int 0]) (rest := []) (ls' := [.ref 41, .int 0, .int x1]) rfl rfl (Or.inl rfl) pm_M177 rfl rfl (Nat.le_of_ble_eq_true rfl) (Nat.le_of_ble_eq_true rfl) rfl rfl (Nat.le_of_ble_eq_true rfl) rfl rfl ?_
          refine pm_R_lo pm_M177 (pc' := 1) rfl rfl rfl ?_
          refine pm_R_op pm_M177 (pc' := 2) (st' := [.int 0, .int x1]) rfl rfl rfl ?_
          refine pm_R_lo pm_M177 (pc' := 3) rfl rfl rfl ?_
          refine pm_R_get pm_M177 (pc' := 6) (v := .ref 46) rfl rfl rfl (Nat.le_of_ble_eq_true rfl) (Nat.le_of_ble_eq_true rfl) rfl rfl ?_
          refine pm_R_lo pm_M177 (pc' := 7) rfl rfl rfl ?_
          refine pm_R_iald pm_M177 (pc' := 8) (v := 0) rfl (hh 46 (Nat.le_of_ble_eq_true rfl)) (Nat.le_of_ble_eq_true rfl) rfl rfl rfl ?_
          refine pm_R_op pm_M177 (pc' := 9) (st' := [.int 1, .int 0, .int 0, .int x1]) rfl rfl rfl ?_
          refine pm_R_op pm_M177 (pc' := 10) (st' := [.int (-1), .int 0, .int x1]) rfl rfl rfl ?_
          refine pm_R_cs pm_M177 (pc' := 13) (ra := [.int (-1), .int 0, .int x1]) (rest := []) (ls' := [.int x1, .int 0, .int (-1)]) rfl rfl (Or.inl rfl) pm_M174 rfl rfl (Nat.le_of_ble_eq_true rfl) rfl rfl ?_
          refine pm_R_lo pm_M174 (pc' := 1) rfl rfl rfl ?_
          refine pm_R_lo pm_M174 (pc' := 2) rfl rfl rfl ?_
          refine pm_R_icmp pm_M174 (t := 14) (pc' := 5) rfl rfl rfl (fun c_14 => by exact absurd c_14 c_1) (fun c_14 => ?_)
          refine pm_R_lo pm_M174 (pc' := 6) rfl rfl rfl ?_
          refine pm_R_lo pm_M174 (pc' := 7) rfl rfl rfl ?_
          refine pm_R_icmp pm_M174 (t := 14) (pc' := 10) rfl rfl rfl (fun c_15 => ?_) (fun c_15 => by have z0 : ((-1) : Int32).toInt = -1 := (by decide); have z1 : ((0) : Int32).toInt = 0 := (by decide); have q0 := (Int32.le_iff_toInt_le.mp (Int32.not_lt.mp c_1)); have q1 := (Int32.le_iff_toInt_le.mp (Int32.not_lt.mp c_15)); exfalso; omega)
          refine pm_R_op pm_M174 (pc' := 15) (st' := [.int 0]) rfl rfl rfl ?_
          refine pm_R_ret pm_M174 (r := some (.int 0)) rfl rfl ?_
          show pm_R _ 177 13 [.ref 41, .int 0, .int x1] [.int 0] _ _
          refine pm_R_ret pm_M177 (r := some (.int 0)) rfl rfl ?_
          show pm_R _ 200 6 [.ref 41, .int x1, .int x2] [.int 0] _ _
          refine pm_R_br pm_M200 (pc' := 18) (st' := []) rfl rfl ?_
          refine pm_R_op pm_M200 (pc' := 19) (st' := [.int 0]) rfl rfl rfl ?_
          refine pm_R_ret pm_M200 (r := some (.int 0)) rfl rfl ?_
          show pm_R _ 233 21 [.ref 41, .int x1, .int x2, .int x3, .int x4] [.int 0] _ _
          refine pm_R_br pm_M233 (pc' := 37) (st' := []) rfl rfl ?_
          refine pm_R_op pm_M233 (pc' := 39) (st' := [.int (-2)]) rfl rfl rfl ?_
          refine pm_R_ret pm_M233 (r := some (.int (-2))) rfl rfl ?_
          show pm_R _ 0 796 [.ref 0, .ref 16, .ref 41, .int 0] [.int (-2), .int (-2)] _ _
          refine pm_R_br pm_M0 (pc' := 2121) (st' := []) (pm_q0_8 (Nat.le_of_ble_eq_true rfl)) rfl ?_
          exact p1_tail (hh 0 (Nat.le_of_ble_eq_true rfl)) (Nat.le_of_ble_eq_true rfl) (Nat.le_of_ble_eq_true rfl) (Nat.le_of_ble_eq_true rfl)
    · refine pm_R_lo pm_M66 (pc' := 5) rfl rfl rfl ?_
      refine pm_R_lo pm_M66 (pc' := 6) rfl rfl rfl ?_
      refine pm_R_get pm_M66 (pc' := 9) (v := .ref 17) rfl rfl (hh 16 (Nat.le_of_ble_eq_true rfl)) (Nat.le_of_ble_eq_true rfl) (Nat.le_of_ble_eq_true rfl) rfl rfl ?_
      refine pm_R_get pm_M66 (pc' := 12) (v := .ref 23) rfl rfl (hh 17 (Nat.le_of_ble_eq_true rfl)) (Nat.le_of_ble_eq_true rfl) (Nat.le_of_ble_eq_true rfl) rfl rfl ?_
      refine pm_R_op pm_M66 (pc' := 13) (st' := [.int 1, .ref 23, .int x2]) rfl rfl rfl ?_
      refine pm_R_iald pm_M66 (pc' := 14) (v := 0) rfl (hh 23 (Nat.le_of_ble_eq_true rfl)) (Nat.le_of_ble_eq_true rfl) rfl rfl rfl ?_
      refine pm_R_icmp pm_M66 (t := 21) (pc' := 17) rfl rfl rfl (fun c_16 => by exact absurd c_16 c_11) (fun c_16 => ?_)
      refine pm_R_op pm_M66 (pc' := 18) (st' := [.null]) rfl rfl rfl ?_
      refine pm_R_br pm_M66 (pc' := 30) rfl rfl ?_
      refine pm_R_ret pm_M66 (r := some (.null)) rfl rfl ?_
      show pm_R _ 109 12 [.ref 16, .int x1, .int x2, .int x3, .int x4, .null, pm_no] [.null] _ _
      refine pm_R_lo pm_M109 (pc' := 14) (ls' := [.ref 16, .int x1, .int x2, .int x3, .int x4, .null, .null]) (st' := []) rfl rfl rfl ?_
      refine pm_R_lo pm_M109 (pc' := 16) rfl rfl rfl ?_
      refine pm_R_br pm_M109 (pc' := 31) rfl rfl ?_
      refine pm_R_op pm_M109 (pc' := 33) (st' := [.int (-2)]) rfl rfl rfl ?_
      refine pm_R_ret pm_M109 (r := some (.int (-2))) rfl rfl ?_
      show pm_R _ 0 772 [.ref 0, .ref 16, .ref 41, .int 0] [.int (-2)] _ _
      refine pm_R_lo pm_M0 (pc' := 773) (pm_q0_8 (Nat.le_of_ble_eq_true rfl)) rfl rfl ?_
      refine pm_R_lo pm_M0 (pc' := 774) (pm_q0_8 (Nat.le_of_ble_eq_true rfl)) rfl rfl ?_
      refine pm_R_lo pm_M0 (pc' := 775) (pm_q0_8 (Nat.le_of_ble_eq_true rfl)) rfl rfl ?_
      refine pm_R_op pm_M0 (pc' := 776) (st' := [.int 1, .int 0, .ref 0, .ref 41, .int (-2)]) (pm_q0_8 (Nat.le_of_ble_eq_true rfl)) rfl rfl ?_
      refine pm_R_op pm_M0 (pc' := 777) (st' := [.int 1, .ref 0, .ref 41, .int (-2)]) (pm_q0_8 (Nat.le_of_ble_eq_true rfl)) rfl rfl ?_
      refine pm_R_iald pm_M0 (pc' := 778) (v := x1) (pm_q0_8 (Nat.le_of_ble_eq_true rfl)) (hh 0 (Nat.le_of_ble_eq_true rfl)) (Nat.le_of_ble_eq_true rfl) rfl hx1 rfl ?_
      refine pm_R_lo pm_M0 (pc' := 779) (pm_q0_8 (Nat.le_of_ble_eq_true rfl)) rfl rfl ?_
      refine pm_R_lo pm_M0 (pc' := 780) (pm_q0_8 (Nat.le_of_ble_eq_true rfl)) rfl rfl ?_
      refine pm_R_op pm_M0 (pc' := 781) (st' := [.int 2, .int 0, .ref 0, .int x1, .ref 41, .int (-2)]) (pm_q0_8 (Nat.le_of_ble_eq_true rfl)) rfl rfl ?_
      refine pm_R_op pm_M0 (pc' := 782) (st' := [.int 2, .ref 0, .int x1, .ref 41, .int (-2)]) (pm_q0_8 (Nat.le_of_ble_eq_true rfl)) rfl rfl ?_
      refine pm_R_iald pm_M0 (pc' := 783) (v := x2) (pm_q0_8 (Nat.le_of_ble_eq_true rfl)) (hh 0 (Nat.le_of_ble_eq_true rfl)) (Nat.le_of_ble_eq_true rfl) rfl hx2 rfl ?_
      refine pm_R_lo pm_M0 (pc' := 784) (pm_q0_8 (Nat.le_of_ble_eq_true rfl)) rfl rfl ?_
      refine pm_R_lo pm_M0 (pc' := 785) (pm_q0_8 (Nat.le_of_ble_eq_true rfl)) rfl rfl ?_
      refine pm_R_op pm_M0 (pc' := 786) (st' := [.int 3, .int 0, .ref 0, .int x2, .int x1, .ref 41, .int (-2)]) (pm_q0_8 (Nat.le_of_ble_eq_true rfl)) rfl rfl ?_
      refine pm_R_op pm_M0 (pc' := 787) (st' := [.int 3, .ref 0, .int x2, .int x1, .ref 41, .int (-2)]) (pm_q0_8 (Nat.le_of_ble_eq_true rfl)) rfl rfl ?_
      refine pm_R_iald pm_M0 (pc' := 788) (v := x3) (pm_q0_8 (Nat.le_of_ble_eq_true rfl)) (hh 0 (Nat.le_of_ble_eq_true rfl)) (Nat.le_of_ble_eq_true rfl) rfl hx3 rfl ?_
      refine pm_R_lo pm_M0 (pc' := 789) (pm_q0_8 (Nat.le_of_ble_eq_true rfl)) rfl rfl ?_
      refine pm_R_lo pm_M0 (pc' := 790) (pm_q0_8 (Nat.le_of_ble_eq_true rfl)) rfl rfl ?_
      refine pm_R_op pm_M0 (pc' := 791) (st' := [.int 4, .int 0, .ref 0, .int x3, .int x2, .int x1, .ref 41, .int (-2)]) (pm_q0_8 (Nat.le_of_ble_eq_true rfl)) rfl rfl ?_
      refine pm_R_op pm_M0 (pc' := 792) (st' := [.int 4, .ref 0, .int x3, .int x2, .int x1, .ref 41, .int (-2)]) (pm_q0_8 (Nat.le_of_ble_eq_true rfl)) rfl rfl ?_
      refine pm_R_iald pm_M0 (pc' := 793) (v := x4) (pm_q0_8 (Nat.le_of_ble_eq_true rfl)) (hh 0 (Nat.le_of_ble_eq_true rfl)) (Nat.le_of_ble_eq_true rfl) rfl hx4 rfl ?_
      refine pm_R_cv pm_M0 (pc' := 796) (a := 41) (ra := [.int x4, .int x3, .int x2, .int x1]) (rest := [.int (-2)]) (ls' := [.ref 41, .int x1, .int x2, .int x3, .int x4]) (pm_q0_8 (Nat.le_of_ble_eq_true rfl)) rfl (Or.inl rfl) pm_M233 (hh 41 (Nat.le_of_ble_eq_true rfl)) rfl (Nat.le_of_ble_eq_true rfl) (Nat.le_of_ble_eq_true rfl) rfl rfl (Nat.le_of_ble_eq_true rfl) rfl rfl ?_
      refine pm_R_lo pm_M233 (pc' := 1) rfl rfl rfl ?_
      refine pm_R_op pm_M233 (pc' := 2) (st' := [.int 0, .ref 41]) rfl rfl rfl ?_
      refine pm_R_put pm_M233 (pc' := 5) (fs' := [.int 0, .ref 42, .ref 43, .ref 44, .ref 45, .ref 46, .ref 47, .ref 48, .ref 49, .ref 50, .int 0, .int 0, .int 0, .int 0, .int 0, .long 0, .int 0, .int 0, .int 0, .ref 51, .ref 52, .int 0, .int 0, .int 0, .int 0, .ref 53, .int 0, .int 0, .ref 54, .ref 55, .ref 56, .int 0, .ref 57, .ref 58, .ref 59, .ref 60, .ref 61, .ref 62, .ref 63, .ref 64, .ref 65, .ref 66, .int 0, .int 0, .int 0, .ref 67, .ref 68, .int 0, .ref 69, .int 0, .int 0, .ref 70, .ref 71]) rfl rfl rfl (hh 41 (Nat.le_of_ble_eq_true rfl)) (Nat.le_of_ble_eq_true rfl) (Nat.le_of_ble_eq_true rfl) (Nat.le_of_ble_eq_true rfl) rfl (Or.inl rfl) rfl rfl ?_
      refine pm_R_lo pm_M233 (pc' := 6) rfl rfl rfl ?_
      refine pm_R_op pm_M233 (pc' := 7) (st' := [.int 0, .int x3]) rfl rfl rfl ?_
      refine pm_R_op pm_M233 (pc' := 9) (st' := [.int 9, .int 0, .int x3]) rfl rfl rfl ?_
      refine pm_R_cs pm_M233 (pc' := 12) (ra := [.int 9, .int 0, .int x3]) (rest := []) (ls' := [.int x3, .int 0, .int 9]) rfl rfl (Or.inl rfl) pm_M174 rfl rfl (Nat.le_of_ble_eq_true rfl) rfl rfl ?_
      refine pm_R_lo pm_M174 (pc' := 1) rfl rfl rfl ?_
      refine pm_R_lo pm_M174 (pc' := 2) rfl rfl rfl ?_
      refine pm_R_icmp pm_M174 (t := 14) (pc' := 5) rfl rfl rfl (fun c_17 => ?_) (fun c_17 => ?_)
      · refine pm_R_op pm_M174 (pc' := 15) (st' := [.int 0]) rfl rfl rfl ?_
        refine pm_R_ret pm_M174 (r := some (.int 0)) rfl rfl ?_
        show pm_R _ 233 12 [.ref 41, .int x1, .int x2, .int x3, .int x4] [.int 0] _ _
        refine pm_R_br pm_M233 (pc' := 37) (st' := []) rfl rfl ?_
        refine pm_R_op pm_M233 (pc' := 39) (st' := [.int (-2)]) rfl rfl rfl ?_
        refine pm_R_ret pm_M233 (r := some (.int (-2))) rfl rfl ?_
        show pm_R _ 0 796 [.ref 0, .ref 16, .ref 41, .int 0] [.int (-2), .int (-2)] _ _
        refine pm_R_br pm_M0 (pc' := 2121) (st' := []) (pm_q0_8 (Nat.le_of_ble_eq_true rfl)) rfl ?_
        exact p1_tail (hh 0 (Nat.le_of_ble_eq_true rfl)) (Nat.le_of_ble_eq_true rfl) (Nat.le_of_ble_eq_true rfl) (Nat.le_of_ble_eq_true rfl)
      · refine pm_R_lo pm_M174 (pc' := 6) rfl rfl rfl ?_
        refine pm_R_lo pm_M174 (pc' := 7) rfl rfl rfl ?_
        refine pm_R_icmp pm_M174 (t := 14) (pc' := 10) rfl rfl rfl (fun c_18 => ?_) (fun c_18 => ?_)
        · refine pm_R_op pm_M174 (pc' := 15) (st' := [.int 0]) rfl rfl rfl ?_
          refine pm_R_ret pm_M174 (r := some (.int 0)) rfl rfl ?_
          show pm_R _ 233 12 [.ref 41, .int x1, .int x2, .int x3, .int x4] [.int 0] _ _
          refine pm_R_br pm_M233 (pc' := 37) (st' := []) rfl rfl ?_
          refine pm_R_op pm_M233 (pc' := 39) (st' := [.int (-2)]) rfl rfl rfl ?_
          refine pm_R_ret pm_M233 (r := some (.int (-2))) rfl rfl ?_
          show pm_R _ 0 796 [.ref 0, .ref 16, .ref 41, .int 0] [.int (-2), .int (-2)] _ _
          refine pm_R_br pm_M0 (pc' := 2121) (st' := []) (pm_q0_8 (Nat.le_of_ble_eq_true rfl)) rfl ?_
          exact p1_tail (hh 0 (Nat.le_of_ble_eq_true rfl)) (Nat.le_of_ble_eq_true rfl) (Nat.le_of_ble_eq_true rfl) (Nat.le_of_ble_eq_true rfl)
        · refine pm_R_op pm_M174 (pc' := 11) (st' := [.int 1]) rfl rfl rfl ?_
          refine pm_R_br pm_M174 (pc' := 15) rfl rfl ?_
          refine pm_R_ret pm_M174 (r := some (.int 1)) rfl rfl ?_
          show pm_R _ 233 12 [.ref 41, .int x1, .int x2, .int x3, .int x4] [.int 1] _ _
          refine pm_R_br pm_M233 (pc' := 15) (st' := []) rfl rfl ?_
          refine pm_R_lo pm_M233 (pc' := 16) rfl rfl rfl ?_
          refine pm_R_lo pm_M233 (pc' := 17) rfl rfl rfl ?_
          refine pm_R_lo pm_M233 (pc' := 18) rfl rfl rfl ?_
          refine pm_R_cv pm_M233 (pc' := 21) (a := 41) (ra := [.int x2, .int x1]) (rest := []) (ls' := [.ref 41, .int x1, .int x2]) rfl rfl (Or.inl rfl) pm_M200 rfl rfl (Nat.le_of_ble_eq_true rfl) (Nat.le_of_ble_eq_true rfl) rfl rfl (Nat.le_of_ble_eq_true rfl) rfl rfl ?_
          refine pm_R_lo pm_M200 (pc' := 1) rfl rfl rfl ?_
          refine pm_R_op pm_M200 (pc' := 2) (st' := [.int 0, .ref 41]) rfl rfl rfl ?_
          refine pm_R_lo pm_M200 (pc' := 3) rfl rfl rfl ?_
          refine pm_R_cv pm_M200 (pc' := 6) (a := 41) (ra := [.int x1, .int 0]) (rest := []) (ls' := [.ref 41, .int 0, .int x1]) rfl rfl (Or.inl rfl) pm_M177 rfl rfl (Nat.le_of_ble_eq_true rfl) (Nat.le_of_ble_eq_true rfl) rfl rfl (Nat.le_of_ble_eq_true rfl) rfl rfl ?_
          refine pm_R_lo pm_M177 (pc' := 1) rfl rfl rfl ?_
          refine pm_R_op pm_M177 (pc' := 2) (st' := [.int 0, .int x1]) rfl rfl rfl ?_
          refine pm_R_lo pm_M177 (pc' := 3) rfl rfl rfl ?_
          refine pm_R_get pm_M177 (pc' := 6) (v := .ref 46) rfl rfl rfl (Nat.le_of_ble_eq_true rfl) (Nat.le_of_ble_eq_true rfl) rfl rfl ?_
          refine pm_R_lo pm_M177 (pc' := 7) rfl rfl rfl ?_
          refine pm_R_iald pm_M177 (pc' := 8) (v := 0) rfl (hh 46 (Nat.le_of_ble_eq_true rfl)) (Nat.le_of_ble_eq_true rfl) rfl rfl rfl ?_
          refine pm_R_op pm_M177 (pc' := 9) (st' := [.int 1, .int 0, .int 0, .int x1]) rfl rfl rfl ?_
          refine pm_R_op pm_M177 (pc' := 10) (st' := [.int (-1), .int 0, .int x1]) rfl rfl rfl ?_
          refine pm_R_cs pm_M177 (pc' := 13) (ra := [.int (-1), .int 0, .int x1]) (rest := []) (ls' := [.int x1, .int 0, .int (-1)]) rfl rfl (Or.inl rfl) pm_M174 rfl rfl (Nat.le_of_ble_eq_true rfl) rfl rfl ?_
          refine pm_R_lo pm_M174 (pc' := 1) rfl rfl rfl ?_
          refine pm_R_lo pm_M174 (pc' := 2) rfl rfl rfl ?_
          refine pm_R_icmp pm_M174 (t := 14) (pc' := 5) rfl rfl rfl (fun c_19 => by exact absurd c_19 c_1) (fun c_19 => ?_)
          refine pm_R_lo pm_M174 (pc' := 6) rfl rfl rfl ?_
          refine pm_R_lo pm_M174 (pc' := 7) rfl rfl rfl ?_
          refine pm_R_icmp pm_M174 (t := 14) (pc' := 10) rfl rfl rfl (fun c_20 => ?_) (fun c_20 => by have z0 : ((-1) : Int32).toInt = -1 := (by decide); have z1 : ((0) : Int32).toInt = 0 := (by decide); have q0 := (Int32.le_iff_toInt_le.mp (Int32.not_lt.mp c_1)); have q1 := (Int32.le_iff_toInt_le.mp (Int32.not_lt.mp c_20)); exfalso; omega)
          refine pm_R_op pm_M174 (pc' := 15) (st' := [.int 0]) rfl rfl rfl ?_
          refine pm_R_ret pm_M174 (r := some (.int 0)) rfl rfl ?_
          show pm_R _ 177 13 [.ref 41, .int 0, .int x1] [.int 0] _ _
          refine pm_R_ret pm_M177 (r := some (.int 0)) rfl rfl ?_
          show pm_R _ 200 6 [.ref 41, .int x1, .int x2] [.int 0] _ _
          refine pm_R_br pm_M200 (pc' := 18) (st' := []) rfl rfl ?_
          refine pm_R_op pm_M200 (pc' := 19) (st' := [.int 0]) rfl rfl rfl ?_
          refine pm_R_ret pm_M200 (r := some (.int 0)) rfl rfl ?_
          show pm_R _ 233 21 [.ref 41, .int x1, .int x2, .int x3, .int x4] [.int 0] _ _
          refine pm_R_br pm_M233 (pc' := 37) (st' := []) rfl rfl ?_
          refine pm_R_op pm_M233 (pc' := 39) (st' := [.int (-2)]) rfl rfl rfl ?_
          refine pm_R_ret pm_M233 (r := some (.int (-2))) rfl rfl ?_
          show pm_R _ 0 796 [.ref 0, .ref 16, .ref 41, .int 0] [.int (-2), .int (-2)] _ _
          refine pm_R_br pm_M0 (pc' := 2121) (st' := []) (pm_q0_8 (Nat.le_of_ble_eq_true rfl)) rfl ?_
          exact p1_tail (hh 0 (Nat.le_of_ble_eq_true rfl)) (Nat.le_of_ble_eq_true rfl) (Nat.le_of_ble_eq_true rfl) (Nat.le_of_ble_eq_true rfl)
set_option maxRecDepth 100000 in
set_option maxHeartbeats 40000000 in
theorem p1_c13 (xs : Nat → Int32) (f : Nat → pm_E) (hh : ∀ i, i < 72 → f i = pm_fF 7 xs i) (x0 x1 x2 x3 x4 x5 x6 : Int32) (hx0 : xs 0 = x0) (hx1 : xs 1 = x1) (hx2 : xs 2 = x2) (hx3 : xs 3 = x3) (hx4 : xs 4 = x4) (hx5 : xs 5 = x5) (hx6 : xs 6 = x6) : pm_R 100 0 801 [.ref 0, .ref 16, .ref 41, .int 0] [] (72, 52657, f) p1_Q := by
  refine pm_R_lo pm_M0 (pc' := 802) (pm_q0_8 (Nat.le_of_ble_eq_true rfl)) rfl rfl ?_
  refine pm_R_lo pm_M0 (pc' := 803) (pm_q0_8 (Nat.le_of_ble_eq_true rfl)) rfl rfl ?_
  refine pm_R_lo pm_M0 (pc' := 804) (pm_q0_8 (Nat.le_of_ble_eq_true rfl)) rfl rfl ?_
  refine pm_R_op pm_M0 (pc' := 805) (st' := [.int 1, .int 0, .ref 0, .ref 16]) (pm_q0_8 (Nat.le_of_ble_eq_true rfl)) rfl rfl ?_
  refine pm_R_op pm_M0 (pc' := 806) (st' := [.int 1, .ref 0, .ref 16]) (pm_q0_8 (Nat.le_of_ble_eq_true rfl)) rfl rfl ?_
  refine pm_R_iald pm_M0 (pc' := 807) (v := x1) (pm_q0_8 (Nat.le_of_ble_eq_true rfl)) (hh 0 (Nat.le_of_ble_eq_true rfl)) (Nat.le_of_ble_eq_true rfl) rfl hx1 rfl ?_
  refine pm_R_lo pm_M0 (pc' := 808) (pm_q0_8 (Nat.le_of_ble_eq_true rfl)) rfl rfl ?_
  refine pm_R_lo pm_M0 (pc' := 809) (pm_q0_8 (Nat.le_of_ble_eq_true rfl)) rfl rfl ?_
  refine pm_R_op pm_M0 (pc' := 810) (st' := [.int 2, .int 0, .ref 0, .int x1, .ref 16]) (pm_q0_8 (Nat.le_of_ble_eq_true rfl)) rfl rfl ?_
  refine pm_R_op pm_M0 (pc' := 811) (st' := [.int 2, .ref 0, .int x1, .ref 16]) (pm_q0_8 (Nat.le_of_ble_eq_true rfl)) rfl rfl ?_
  refine pm_R_iald pm_M0 (pc' := 812) (v := x2) (pm_q0_8 (Nat.le_of_ble_eq_true rfl)) (hh 0 (Nat.le_of_ble_eq_true rfl)) (Nat.le_of_ble_eq_true rfl) rfl hx2 rfl ?_
  refine pm_R_lo pm_M0 (pc' := 813) (pm_q0_8 (Nat.le_of_ble_eq_true rfl)) rfl rfl ?_
  refine pm_R_lo pm_M0 (pc' := 814) (pm_q0_8 (Nat.le_of_ble_eq_true rfl)) rfl rfl ?_
  refine pm_R_op pm_M0 (pc' := 815) (st' := [.int 3, .int 0, .ref 0, .int x2, .int x1, .ref 16]) (pm_q0_8 (Nat.le_of_ble_eq_true rfl)) rfl rfl ?_
  refine pm_R_op pm_M0 (pc' := 816) (st' := [.int 3, .ref 0, .int x2, .int x1, .ref 16]) (pm_q0_8 (Nat.le_of_ble_eq_true rfl)) rfl rfl ?_
  refine pm_R_iald pm_M0 (pc' := 817) (v := x3) (pm_q0_8 (Nat.le_of_ble_eq_true rfl)) (hh 0 (Nat.le_of_ble_eq_true rfl)) (Nat.le_of_ble_eq_true rfl) rfl hx3 rfl ?_
  refine pm_R_cv pm_M0 (pc' := 820) (a := 16) (ra := [.int x3, .int x2, .int x1]) (rest := []) (ls' := [.ref 16, .int x1, .int x2, .int x3, pm_no, pm_no, pm_no, pm_no, pm_no]) (pm_q0_8 (Nat.le_of_ble_eq_true rfl)) rfl (Or.inl rfl) pm_M115 (hh 16 (Nat.le_of_ble_eq_true rfl)) rfl (Nat.le_of_ble_eq_true rfl) (Nat.le_of_ble_eq_true rfl) rfl rfl (Nat.le_of_ble_eq_true rfl) rfl rfl ?_
  refine pm_R_lo pm_M115 (pc' := 1) rfl rfl rfl ?_
  refine pm_R_lo pm_M115 (pc' := 2) rfl rfl rfl ?_
  refine pm_R_cv pm_M115 (pc' := 5) (a := 16) (ra := [.int x1]) (rest := []) (ls' := [.ref 16, .int x1]) rfl rfl (Or.inl rfl) pm_M62 (hh 16 (Nat.le_of_ble_eq_true rfl)) rfl (Nat.le_of_ble_eq_true rfl) (Nat.le_of_ble_eq_true rfl) rfl rfl (Nat.le_of_ble_eq_true rfl) rfl rfl ?_
  refine pm_R_lo pm_M62 (pc' := 1) rfl rfl rfl ?_
  refine pm_R_ifc pm_M62 (t := 17) (pc' := 4) rfl rfl rfl (fun c_1 => ?_) (fun c_1 => ?_)
  · refine pm_R_op pm_M62 (pc' := 18) (st' := [.null]) rfl rfl rfl ?_
    refine pm_R_br pm_M62 (pc' := 30) rfl rfl ?_
    refine pm_R_ret pm_M62 (r := some (.null)) rfl rfl ?_
    show pm_R _ 115 5 [.ref 16, .int x1, .int x2, .int x3, pm_no, pm_no, pm_no, pm_no, pm_no] [.null] _ _
    refine pm_R_lo pm_M115 (pc' := 7) (ls' := [.ref 16, .int x1, .int x2, .int x3, .null, pm_no, pm_no, pm_no, pm_no]) (st' := []) rfl rfl rfl ?_
    refine pm_R_lo pm_M115 (pc' := 8) rfl rfl rfl ?_
    refine pm_R_lo pm_M115 (pc' := 9) rfl rfl rfl ?_
    refine pm_R_cv pm_M115 (pc' := 12) (a := 16) (ra := [.int x2]) (rest := []) (ls' := [.ref 16, .int x2]) rfl rfl (Or.inl rfl) pm_M66 (hh 16 (Nat.le_of_ble_eq_true rfl)) rfl (Nat.le_of_ble_eq_true rfl) (Nat.le_of_ble_eq_true rfl) rfl rfl (Nat.le_of_ble_eq_true rfl) rfl rfl ?_
    refine pm_R_lo pm_M66 (pc' := 1) rfl rfl rfl ?_
    refine pm_R_ifc pm_M66 (t := 17) (pc' := 4) rfl rfl rfl (fun c_2 => ?_) (fun c_2 => ?_)
    · refine pm_R_op pm_M66 (pc' := 18) (st' := [.null]) rfl rfl rfl ?_
      refine pm_R_br pm_M66 (pc' := 30) rfl rfl ?_
      refine pm_R_ret pm_M66 (r := some (.null)) rfl rfl ?_
      show pm_R _ 115 12 [.ref 16, .int x1, .int x2, .int x3, .null, pm_no, pm_no, pm_no, pm_no] [.null] _ _
      refine pm_R_lo pm_M115 (pc' := 14) (ls' := [.ref 16, .int x1, .int x2, .int x3, .null, .null, pm_no, pm_no, pm_no]) (st' := []) rfl rfl rfl ?_
      refine pm_R_lo pm_M115 (pc' := 16) rfl rfl rfl ?_
      refine pm_R_br pm_M115 (pc' := 31) rfl rfl ?_
      refine pm_R_ldc2 pm_M115 (pc' := 34) rfl rfl rfl ?_
      refine pm_R_ret pm_M115 (r := some (.long (-1))) rfl rfl ?_
      show pm_R _ 0 820 [.ref 0, .ref 16, .ref 41, .int 0] [.long (-1)] _ _
      refine pm_R_lo pm_M0 (pc' := 821) (pm_q0_8 (Nat.le_of_ble_eq_true rfl)) rfl rfl ?_
      refine pm_R_lo pm_M0 (pc' := 822) (pm_q0_8 (Nat.le_of_ble_eq_true rfl)) rfl rfl ?_
      refine pm_R_lo pm_M0 (pc' := 823) (pm_q0_8 (Nat.le_of_ble_eq_true rfl)) rfl rfl ?_
      refine pm_R_op pm_M0 (pc' := 824) (st' := [.int 1, .int 0, .ref 0, .ref 41, .long (-1)]) (pm_q0_8 (Nat.le_of_ble_eq_true rfl)) rfl rfl ?_
      refine pm_R_op pm_M0 (pc' := 825) (st' := [.int 1, .ref 0, .ref 41, .long (-1)]) (pm_q0_9 (Nat.le_of_ble_eq_true rfl)) rfl rfl ?_
      refine pm_R_iald pm_M0 (pc' := 826) (v := x1) (pm_q0_9 (Nat.le_of_ble_eq_true rfl)) (hh 0 (Nat.le_of_ble_eq_true rfl)) (Nat.le_of_ble_eq_true rfl) rfl hx1 rfl ?_
      refine pm_R_lo pm_M0 (pc' := 827) (pm_q0_9 (Nat.le_of_ble_eq_true rfl)) rfl rfl ?_
      refine pm_R_lo pm_M0 (pc' := 828) (pm_q0_9 (Nat.le_of_ble_eq_true rfl)) rfl rfl ?_
      refine pm_R_op pm_M0 (pc' := 829) (st' := [.int 2, .int 0, .ref 0, .int x1, .ref 41, .long (-1)]) (pm_q0_9 (Nat.le_of_ble_eq_true rfl)) rfl rfl ?_
      refine pm_R_op pm_M0 (pc' := 830) (st' := [.int 2, .ref 0, .int x1, .ref 41, .long (-1)]) (pm_q0_9 (Nat.le_of_ble_eq_true rfl)) rfl rfl ?_
      refine pm_R_iald pm_M0 (pc' := 831) (v := x2) (pm_q0_9 (Nat.le_of_ble_eq_true rfl)) (hh 0 (Nat.le_of_ble_eq_true rfl)) (Nat.le_of_ble_eq_true rfl) rfl hx2 rfl ?_
      refine pm_R_lo pm_M0 (pc' := 832) (pm_q0_9 (Nat.le_of_ble_eq_true rfl)) rfl rfl ?_
      refine pm_R_lo pm_M0 (pc' := 833) (pm_q0_9 (Nat.le_of_ble_eq_true rfl)) rfl rfl ?_
      refine pm_R_op pm_M0 (pc' := 834) (st' := [.int 3, .int 0, .ref 0, .int x2, .int x1, .ref 41, .long (-1)]) (pm_q0_9 (Nat.le_of_ble_eq_true rfl)) rfl rfl ?_
      refine pm_R_op pm_M0 (pc' := 835) (st' := [.int 3, .ref 0, .int x2, .int x1, .ref 41, .long (-1)]) (pm_q0_9 (Nat.le_of_ble_eq_true rfl)) rfl rfl ?_
      refine pm_R_iald pm_M0 (pc' := 836) (v := x3) (pm_q0_9 (Nat.le_of_ble_eq_true rfl)) (hh 0 (Nat.le_of_ble_eq_true rfl)) (Nat.le_of_ble_eq_true rfl) rfl hx3 rfl ?_
      refine pm_R_cv pm_M0 (pc' := 839) (a := 41) (ra := [.int x3, .int x2, .int x1]) (rest := [.long (-1)]) (ls' := [.ref 41, .int x1, .int x2, .int x3, pm_no, pm_no, pm_no]) (pm_q0_9 (Nat.le_of_ble_eq_true rfl)) rfl (Or.inl rfl) pm_M237 (hh 41 (Nat.le_of_ble_eq_true rfl)) rfl (Nat.le_of_ble_eq_true rfl) (Nat.le_of_ble_eq_true rfl) rfl rfl (Nat.le_of_ble_eq_true rfl) rfl rfl ?_
      refine pm_R_lo pm_M237 (pc' := 1) rfl rfl rfl ?_
      refine pm_R_op pm_M237 (pc' := 2) (st' := [.int 0, .ref 41]) rfl rfl rfl ?_
      refine pm_R_put pm_M237 (pc' := 5) (fs' := [.int 0, .ref 42, .ref 43, .ref 44, .ref 45, .ref 46, .ref 47, .ref 48, .ref 49, .ref 50, .int 0, .int 0, .int 0, .int 0, .int 0, .long 0, .int 0, .int 0, .int 0, .ref 51, .ref 52, .int 0, .int 0, .int 0, .int 0, .ref 53, .int 0, .int 0, .ref 54, .ref 55, .ref 56, .int 0, .ref 57, .ref 58, .ref 59, .ref 60, .ref 61, .ref 62, .ref 63, .ref 64, .ref 65, .ref 66, .int 0, .int 0, .int 0, .ref 67, .ref 68, .int 0, .ref 69, .int 0, .int 0, .ref 70, .ref 71]) rfl rfl rfl (hh 41 (Nat.le_of_ble_eq_true rfl)) (Nat.le_of_ble_eq_true rfl) (Nat.le_of_ble_eq_true rfl) (Nat.le_of_ble_eq_true rfl) rfl (Or.inl rfl) rfl rfl ?_
      refine pm_R_lo pm_M237 (pc' := 6) rfl rfl rfl ?_
      refine pm_R_op pm_M237 (pc' := 7) (st' := [.int 0, .int x3]) rfl rfl rfl ?_
      refine pm_R_op pm_M237 (pc' := 9) (st' := [.int 9, .int 0, .int x3]) rfl rfl rfl ?_
      refine pm_R_cs pm_M237 (pc' := 12) (ra := [.int 9, .int 0, .int x3]) (rest := []) (ls' := [.int x3, .int 0, .int 9]) rfl rfl (Or.inl rfl) pm_M174 rfl rfl (Nat.le_of_ble_eq_true rfl) rfl rfl ?_
      refine pm_R_lo pm_M174 (pc' := 1) rfl rfl rfl ?_
      refine pm_R_lo pm_M174 (pc' := 2) rfl rfl rfl ?_
      refine pm_R_icmp pm_M174 (t := 14) (pc' := 5) rfl rfl rfl (fun c_3 => ?_) (fun c_3 => ?_)
      · refine pm_R_op pm_M174 (pc' := 15) (st' := [.int 0]) rfl rfl rfl ?_
        refine pm_R_ret pm_M174 (r := some (.int 0)) rfl rfl ?_
        show pm_R _ 237 12 [.ref 41, .int x1, .int x2, .int x3, pm_no, pm_no, pm_no] [.int 0] _ _
        refine pm_R_br pm_M237 (pc' := 24) (st' := []) rfl rfl ?_
        refine pm_R_ldc2 pm_M237 (pc' := 27) rfl rfl rfl ?_
        refine pm_R_ret pm_M237 (r := some (.long (-1))) rfl rfl ?_
        show pm_R _ 0 839 [.ref 0, .ref 16, .ref 41, .int 0] [.long (-1), .long (-1)] _ _
        refine pm_R_op pm_M0 (pc' := 840) (st' := [.int 0]) (pm_q0_9 (Nat.le_of_ble_eq_true rfl)) rfl rfl ?_
        refine pm_R_br pm_M0 (pc' := 2121) (st' := []) (pm_q0_9 (Nat.le_of_ble_eq_true rfl)) rfl ?_
        exact p1_tail (hh 0 (Nat.le_of_ble_eq_true rfl)) (Nat.le_of_ble_eq_true rfl) (Nat.le_of_ble_eq_true rfl) (Nat.le_of_ble_eq_true rfl)
      · refine pm_R_lo pm_M174 (pc' := 6) rfl rfl rfl ?_
        refine pm_R_lo pm_M174 (pc' := 7) rfl rfl rfl ?_
        refine pm_R_icmp pm_M174 (t := 14) (pc' := 10) rfl rfl rfl (fun c_4 => ?_) (fun c_4 => ?_)
        · refine pm_R_op pm_M174 (pc' := 15) (st' := [.int 0]) rfl rfl rfl ?_
          refine pm_R_ret pm_M174 (r := some (.int 0)) rfl rfl ?_
          show pm_R _ 237 12 [.ref 41, .int x1, .int x2, .int x3, pm_no, pm_no, pm_no] [.int 0] _ _
          refine pm_R_br pm_M237 (pc' := 24) (st' := []) rfl rfl ?_
          refine pm_R_ldc2 pm_M237 (pc' := 27) rfl rfl rfl ?_
          refine pm_R_ret pm_M237 (r := some (.long (-1))) rfl rfl ?_
          show pm_R _ 0 839 [.ref 0, .ref 16, .ref 41, .int 0] [.long (-1), .long (-1)] _ _
          refine pm_R_op pm_M0 (pc' := 840) (st' := [.int 0]) (pm_q0_9 (Nat.le_of_ble_eq_true rfl)) rfl rfl ?_
          refine pm_R_br pm_M0 (pc' := 2121) (st' := []) (pm_q0_9 (Nat.le_of_ble_eq_true rfl)) rfl ?_
          exact p1_tail (hh 0 (Nat.le_of_ble_eq_true rfl)) (Nat.le_of_ble_eq_true rfl) (Nat.le_of_ble_eq_true rfl) (Nat.le_of_ble_eq_true rfl)
        · refine pm_R_op pm_M174 (pc' := 11) (st' := [.int 1]) rfl rfl rfl ?_
          refine pm_R_br pm_M174 (pc' := 15) rfl rfl ?_
          refine pm_R_ret pm_M174 (r := some (.int 1)) rfl rfl ?_
          show pm_R _ 237 12 [.ref 41, .int x1, .int x2, .int x3, pm_no, pm_no, pm_no] [.int 1] _ _
          refine pm_R_br pm_M237 (pc' := 15) (st' := []) rfl rfl ?_
          refine pm_R_lo pm_M237 (pc' := 16) rfl rfl rfl ?_
          refine pm_R_lo pm_M237 (pc' := 17) rfl rfl rfl ?_
          refine pm_R_lo pm_M237 (pc' := 18) rfl rfl rfl ?_
          refine pm_R_cv pm_M237 (pc' := 21) (a := 41) (ra := [.int x2, .int x1]) (rest := []) (ls' := [.ref 41, .int x1, .int x2]) rfl rfl (Or.inl rfl) pm_M200 rfl rfl (Nat.le_of_ble_eq_true rfl) (Nat.le_of_ble_eq_true rfl) rfl rfl (Nat.le_of_ble_eq_true rfl) rfl rfl ?_
          refine pm_R_lo pm_M200 (pc' := 1) rfl rfl rfl ?_
          refine pm_R_op pm_M200 (pc' := 2) (st' := [.int 0, .ref 41]) rfl rfl rfl ?_
          refine pm_R_lo pm_M200 (pc' := 3) rfl rfl rfl ?_
          refine pm_R_cv pm_M200 (pc' := 6) (a := 41) (ra := [.int x1, .int 0]) (rest := []) (ls' := [.ref 41, .int 0, .int x1]) rfl rfl (Or.inl rfl) pm_M177 rfl rfl (Nat.le_of_ble_eq_true rfl) (Nat.le_of_ble_eq_true rfl) rfl rfl (Nat.le_of_ble_eq_true rfl) rfl rfl ?_
          refine pm_R_lo pm_M177 (pc' := 1) rfl rfl rfl ?_
          refine pm_R_op pm_M177 (pc' := 2) (st' := [.int 0, .int x1]) rfl rfl rfl ?_
          refine pm_R_lo pm_M177 (pc' := 3) rfl rfl rfl ?_
          refine pm_R_get pm_M177 (pc' := 6) (v := .ref 46) rfl rfl rfl (Nat.le_of_ble_eq_true rfl) (Nat.le_of_ble_eq_true rfl) rfl rfl ?_
          refine pm_R_lo pm_M177 (pc' := 7) rfl rfl rfl ?_
          refine pm_R_iald pm_M177 (pc' := 8) (v := 0) rfl (hh 46 (Nat.le_of_ble_eq_true rfl)) (Nat.le_of_ble_eq_true rfl) rfl rfl rfl ?_
          refine pm_R_op pm_M177 (pc' := 9) (st' := [.int 1, .int 0, .int 0, .int x1]) rfl rfl rfl ?_
          refine pm_R_op pm_M177 (pc' := 10) (st' := [.int (-1), .int 0, .int x1]) rfl rfl rfl ?_
          refine pm_R_cs pm_M177 (pc' := 13) (ra := [.int (-1), .int 0, .int x1]) (rest := []) (ls' := [.int x1, .int 0, .int (-1)]) rfl rfl (Or.inl rfl) pm_M174 rfl rfl (Nat.le_of_ble_eq_true rfl) rfl rfl ?_
          refine pm_R_lo pm_M174 (pc' := 1) rfl rfl rfl ?_
          refine pm_R_lo pm_M174 (pc' := 2) rfl rfl rfl ?_
          refine pm_R_icmp pm_M174 (t := 14) (pc' := 5) rfl rfl rfl (fun c_5 => ?_) (fun c_5 => by exact absurd c_1 c_5)
          refine pm_R_op pm_M174 (pc' := 15) (st' := [.int 0]) rfl rfl rfl ?_
          refine pm_R_ret pm_M174 (r := some (.int 0)) rfl rfl ?_
          show pm_R _ 177 13 [.ref 41, .int 0, .int x1] [.int 0] _ _
          refine pm_R_ret pm_M177 (r := some (.int 0)) rfl rfl ?_
          show pm_R _ 200 6 [.ref 41, .int x1, .int x2] [.int 0] _ _
          refine pm_R_br pm_M200 (pc' := 18) (st' := []) rfl rfl ?_
          refine pm_R_op pm_M200 (pc' := 19) (st' := [.int 0]) rfl rfl rfl ?_
          refine pm_R_ret pm_M200 (r := some (.int 0)) rfl rfl ?_
          show pm_R _ 237 21 [.ref 41, .int x1, .int x2, .int x3, pm_no, pm_no, pm_no] [.int 0] _ _
          refine pm_R_br pm_M237 (pc' := 24) (st' := []) rfl rfl ?_
          refine pm_R_ldc2 pm_M237 (pc' := 27) rfl rfl rfl ?_
          refine pm_R_ret pm_M237 (r := some (.long (-1))) rfl rfl ?_
          show pm_R _ 0 839 [.ref 0, .ref 16, .ref 41, .int 0] [.long (-1), .long (-1)] _ _
          refine pm_R_op pm_M0 (pc' := 840) (st' := [.int 0]) (pm_q0_9 (Nat.le_of_ble_eq_true rfl)) rfl rfl ?_
          refine pm_R_br pm_M0 (pc' := 2121) (st' := []) (pm_q0_9 (Nat.le_of_ble_eq_true rfl)) rfl ?_
          exact p1_tail (hh 0 (Nat.le_of_ble_eq_true rfl)) (Nat.le_of_ble_eq_true rfl) (Nat.le_of_ble_eq_true rfl) (Nat.le_of_ble_eq_true rfl)
    · refine pm_R_lo pm_M66 (pc' := 5) rfl rfl rfl ?_
      refine pm_R_lo pm_M66 (pc' := 6) rfl rfl rfl ?_
      refine pm_R_get pm_M66 (pc' := 9) (v := .ref 17) rfl rfl (hh 16 (Nat.le_of_ble_eq_true rfl)) (Nat.le_of_ble_eq_true rfl) (Nat.le_of_ble_eq_true rfl) rfl rfl ?_
      refine pm_R_get pm_M66 (pc' := 12) (v := .ref 23) rfl rfl (hh 17 (Nat.le_of_ble_eq_true rfl)) (Nat.le_of_ble_eq_true rfl) (Nat.le_of_ble_eq_true rfl) rfl rfl ?_
      refine pm_R_op pm_M66 (pc' := 13) (st' := [.int 1, .ref 23, .int x2]) rfl rfl rfl ?_
      refine pm_R_iald pm_M66 (pc' := 14) (v := 0) rfl (hh 23 (Nat.le_of_ble_eq_true rfl)) (Nat.le_of_ble_eq_true rfl) rfl rfl rfl ?_
      refine pm_R_icmp pm_M66 (t := 21) (pc' := 17) rfl rfl rfl (fun c_6 => by exact absurd c_6 c_2) (fun c_6 => ?_)
      refine pm_R_op pm_M66 (pc' := 18) (st' := [.null]) rfl rfl rfl ?_
      refine pm_R_br pm_M66 (pc' := 30) rfl rfl ?_
      refine pm_R_ret pm_M66 (r := some (.null)) rfl rfl ?_
      show pm_R _ 115 12 [.ref 16, .int x1, .int x2, .int x3, .null, pm_no, pm_no, pm_no, pm_no] [.null] _ _
      refine pm_R_lo pm_M115 (pc' := 14) (ls' := [.ref 16, .int x1, .int x2, .int x3, .null, .null, pm_no, pm_no, pm_no]) (st' := []) rfl rfl rfl ?_
      refine pm_R_lo pm_M115 (pc' := 16) rfl rfl rfl ?_
      refine pm_R_br pm_M115 (pc' := 31) rfl rfl ?_
      refine pm_R_ldc2 pm_M115 (pc' := 34) rfl rfl rfl ?_
      refine pm_R_ret pm_M115 (r := some (.long (-1))) rfl rfl ?_
      show pm_R _ 0 820 [.ref 0, .ref 16, .ref 41, .int 0] [.long (-1)] _ _
      refine pm_R_lo pm_M0 (pc' := 821) (pm_q0_8 (Nat.le_of_ble_eq_true rfl)) rfl rfl ?_
      refine pm_R_lo pm_M0 (pc' := 822) (pm_q0_8 (Nat.le_of_ble_eq_true rfl)) rfl rfl ?_
      refine pm_R_lo pm_M0 (pc' := 823) (pm_q0_8 (Nat.le_of_ble_eq_true rfl)) rfl rfl ?_
      refine pm_R_op pm_M0 (pc' := 824) (st' := [.int 1, .int 0, .ref 0, .ref 41, .long (-1)]) (pm_q0_8 (Nat.le_of_ble_eq_true rfl)) rfl rfl ?_
      refine pm_R_op pm_M0 (pc' := 825) (st' := [.int 1, .ref 0, .ref 41, .long (-1)]) (pm_q0_9 (Nat.le_of_ble_eq_true rfl)) rfl rfl ?_
      refine pm_R_iald pm_M0 (pc' := 826) (v := x1) (pm_q0_9 (Nat.le_of_ble_eq_true rfl)) (hh 0 (Nat.le_of_ble_eq_true rfl)) (Nat.le_of_ble_eq_true rfl) rfl hx1 rfl ?_
      refine pm_R_lo pm_M0 (pc' := 827) (pm_q0_9 (Nat.le_of_ble_eq_true rfl)) rfl rfl ?_
      refine pm_R_lo pm_M0 (pc' := 828) (pm_q0_9 (Nat.le_of_ble_eq_true rfl)) rfl rfl ?_
      refine pm_R_op pm_M0 (pc' := 829) (st' := [.int 2, .int 0, .ref 0, .int x1, .ref 41, .long (-1)]) (pm_q0_9 (Nat.le_of_ble_eq_true rfl)) rfl rfl ?_
      refine pm_R_op pm_M0 (pc' := 830) (st' := [.int 2, .ref 0, .int x1, .ref 41, .long (-1)]) (pm_q0_9 (Nat.le_of_ble_eq_true rfl)) rfl rfl ?_
      refine pm_R_iald pm_M0 (pc' := 831) (v := x2) (pm_q0_9 (Nat.le_of_ble_eq_true rfl)) (hh 0 (Nat.le_of_ble_eq_true rfl)) (Nat.le_of_ble_eq_true rfl) rfl hx2 rfl ?_
      refine pm_R_lo pm_M0 (pc' := 832) (pm_q0_9 (Nat.le_of_ble_eq_true rfl)) rfl rfl ?_
      refine pm_R_lo pm_M0 (pc' := 833) (pm_q0_9 (Nat.le_of_ble_eq_true rfl)) rfl rfl ?_
      refine pm_R_op pm_M0 (pc' := 834) (st' := [.int 3, .int 0, .ref 0, .int x2, .int x1, .ref 41, .long (-1)]) (pm_q0_9 (Nat.le_of_ble_eq_true rfl)) rfl rfl ?_
      refine pm_R_op pm_M0 (pc' := 835) (st' := [.int 3, .ref 0, .int x2, .int x1, .ref 41, .long (-1)]) (pm_q0_9 (Nat.le_of_ble_eq_true rfl)) rfl rfl ?_
      refine pm_R_iald pm_M0 (pc' := 836) (v := x3) (pm_q0_9 (Nat.le_of_ble_eq_true rfl)) (hh 0 (Nat.le_of_ble_eq_true rfl)) (Nat.le_of_ble_eq_true rfl) rfl hx3 rfl ?_
      refine pm_R_cv pm_M0 (pc' := 839) (a := 41) (ra := [.int x3, .int x2, .int x1]) (rest := [.long (-1)]) (ls' := [.ref 41, .int x1, .int x2, .int x3, pm_no, pm_no, pm_no]) (pm_q0_9 (Nat.le_of_ble_eq_true rfl)) rfl (Or.inl rfl) pm_M237 (hh 41 (Nat.le_of_ble_eq_true rfl)) rfl (Nat.le_of_ble_eq_true rfl) (Nat.le_of_ble_eq_true rfl) rfl rfl (Nat.le_of_ble_eq_true rfl) rfl rfl ?_
      refine pm_R_lo pm_M237 (pc' := 1) rfl rfl rfl ?_
      refine pm_R_op pm_M237 (pc' := 2) (st' := [.int 0, .ref 41]) rfl rfl rfl ?_
      refine pm_R_put pm_M237 (pc' := 5) (fs' := [.int 0, .ref 42, .ref 43, .ref 44, .ref 45, .ref 46, .ref 47, .ref 48, .ref 49, .ref 50, .int 0, .int 0, .int 0, .int 0, .int 0, .long 0, .int 0, .int 0, .int 0, .ref 51, .ref 52, .int 0, .int 0, .int 0, .int 0, .ref 53, .int 0, .int 0, .ref 54, .ref 55, .ref 56, .int 0, .ref 57, .ref 58, .ref 59, .ref 60, .ref 61, .ref 62, .ref 63, .ref 64, .ref 65, .ref 66, .int 0, .int 0, .int 0, .ref 67, .ref 68, .int 0, .ref 69, .int 0, .int 0, .ref 70, .ref 71]) rfl rfl rfl (hh 41 (Nat.le_of_ble_eq_true rfl)) (Nat.le_of_ble_eq_true rfl) (Nat.le_of_ble_eq_true rfl) (Nat.le_of_ble_eq_true rfl) rfl (Or.inl rfl) rfl rfl ?_
      refine pm_R_lo pm_M237 (pc' := 6) rfl rfl rfl ?_
      refine pm_R_op pm_M237 (pc' := 7) (st' := [.int 0, .int x3]) rfl rfl rfl ?_
      refine pm_R_op pm_M237 (pc' := 9) (st' := [.int 9, .int 0, .int x3]) rfl rfl rfl ?_
      refine pm_R_cs pm_M237 (pc' := 12) (ra := [.int 9, .int 0, .int x3]) (rest := []) (ls' := [.int x3, .int 0, .int 9]) rfl rfl (Or.inl rfl) pm_M174 rfl rfl (Nat.le_of_ble_eq_true rfl) rfl rfl ?_
      refine pm_R_lo pm_M174 (pc' := 1) rfl rfl rfl ?_
      refine pm_R_lo pm_M174 (pc' := 2) rfl rfl rfl ?_
      refine pm_R_icmp pm_M174 (t := 14) (pc' := 5) rfl rfl rfl (fun c_7 => ?_) (fun c_7 => ?_)
      · refine pm_R_op pm_M174 (pc' := 15) (st' := [.int 0]) rfl rfl rfl ?_
        refine pm_R_ret pm_M174 (r := some (.int 0)) rfl rfl ?_
        show pm_R _ 237 12 [.ref 41, .int x1, .int x2, .int x3, pm_no, pm_no, pm_no] [.int 0] _ _
        refine pm_R_br pm_M237 (pc' := 24) (st' := []) rfl rfl ?_
        refine pm_R_ldc2 pm_M237 (pc' := 27) rfl rfl rfl ?_
        refine pm_R_ret pm_M237 (r := some (.long (-1))) rfl rfl ?_
        show pm_R _ 0 839 [.ref 0, .ref 16, .ref 41, .int 0] [.long (-1), .long (-1)] _ _
        refine pm_R_op pm_M0 (pc' := 840) (st' := [.int 0]) (pm_q0_9 (Nat.le_of_ble_eq_true rfl)) rfl rfl ?_
        refine pm_R_br pm_M0 (pc' := 2121) (st' := []) (pm_q0_9 (Nat.le_of_ble_eq_true rfl)) rfl ?_
        exact p1_tail (hh 0 (Nat.le_of_ble_eq_true rfl)) (Nat.le_of_ble_eq_true rfl) (Nat.le_of_ble_eq_true rfl) (Nat.le_of_ble_eq_true rfl)
      · refine pm_R_lo pm_M174 (pc' := 6) rfl rfl rfl ?_
        refine pm_R_lo pm_M174 (pc' := 7) rfl rfl rfl ?_
        refine pm_R_icmp pm_M174 (t := 14) (pc' := 10) rfl rfl rfl (fun c_8 => ?_) (fun c_8 => ?_)
        · refine pm_R_op pm_M174 (pc' := 15) (st' := [.int 0]) rfl rfl rfl ?_
          refine pm_R_ret pm_M174 (r := some (.int 0)) rfl rfl ?_
          show pm_R _ 237 12 [.ref 41, .int x1, .int x2, .int x3, pm_no, pm_no, pm_no] [.int 0] _ _
          refine pm_R_br pm_M237 (pc' := 24) (st' := []) rfl rfl ?_
          refine pm_R_ldc2 pm_M237 (pc' := 27) rfl rfl rfl ?_
          refine pm_R_ret pm_M237 (r := some (.long (-1))) rfl rfl ?_
          show pm_R _ 0 839 [.ref 0, .ref 16, .ref 41, .int 0] [.long (-1), .long (-1)] _ _
          refine pm_R_op pm_M0 (pc' := 840) (st' := [.int 0]) (pm_q0_9 (Nat.le_of_ble_eq_true rfl)) rfl rfl ?_
          refine pm_R_br pm_M0 (pc' := 2121) (st' := []) (pm_q0_9 (Nat.le_of_ble_eq_true rfl)) rfl ?_
          exact p1_tail (hh 0 (Nat.le_of_ble_eq_true rfl)) (Nat.le_of_ble_eq_true rfl) (Nat.le_of_ble_eq_true rfl) (Nat.le_of_ble_eq_true rfl)
        · refine pm_R_op pm_M174 (pc' := 11) (st' := [.int 1]) rfl rfl rfl ?_
          refine pm_R_br pm_M174 (pc' := 15) rfl rfl ?_
          refine pm_R_ret pm_M174 (r := some (.int 1)) rfl rfl ?_
          show pm_R _ 237 12 [.ref 41, .int x1, .int x2, .int x3, pm_no, pm_no, pm_no] [.int 1] _ _
          refine pm_R_br pm_M237 (pc' := 15) (st' := []) rfl rfl ?_
          refine pm_R_lo pm_M237 (pc' := 16) rfl rfl rfl ?_
          refine pm_R_lo pm_M237 (pc' := 17) rfl rfl rfl ?_
          refine pm_R_lo pm_M237 (pc' := 18) rfl rfl rfl ?_
          refine pm_R_cv pm_M237 (pc' := 21) (a := 41) (ra := [.int x2, .int x1]) (rest := []) (ls' := [.ref 41, .int x1, .int x2]) rfl rfl (Or.inl rfl) pm_M200 rfl rfl (Nat.le_of_ble_eq_true rfl) (Nat.le_of_ble_eq_true rfl) rfl rfl (Nat.le_of_ble_eq_true rfl) rfl rfl ?_
          refine pm_R_lo pm_M200 (pc' := 1) rfl rfl rfl ?_
          refine pm_R_op pm_M200 (pc' := 2) (st' := [.int 0, .ref 41]) rfl rfl rfl ?_
          refine pm_R_lo pm_M200 (pc' := 3) rfl rfl rfl ?_
          refine pm_R_cv pm_M200 (pc' := 6) (a := 41) (ra := [.int x1, .int 0]) (rest := []) (ls' := [.ref 41, .int 0, .int x1]) rfl rfl (Or.inl rfl) pm_M177 rfl rfl (Nat.le_of_ble_eq_true rfl) (Nat.le_of_ble_eq_true rfl) rfl rfl (Nat.le_of_ble_eq_true rfl) rfl rfl ?_
          refine pm_R_lo pm_M177 (pc' := 1) rfl rfl rfl ?_
          refine pm_R_op pm_M177 (pc' := 2) (st' := [.int 0, .int x1]) rfl rfl rfl ?_
          refine pm_R_lo pm_M177 (pc' := 3) rfl rfl rfl ?_
          refine pm_R_get pm_M177 (pc' := 6) (v := .ref 46) rfl rfl rfl (Nat.le_of_ble_eq_true rfl) (Nat.le_of_ble_eq_true rfl) rfl rfl ?_
          refine pm_R_lo pm_M177 (pc' := 7) rfl rfl rfl ?_
          refine pm_R_iald pm_M177 (pc' := 8) (v := 0) rfl (hh 46 (Nat.le_of_ble_eq_true rfl)) (Nat.le_of_ble_eq_true rfl) rfl rfl rfl ?_
          refine pm_R_op pm_M177 (pc' := 9) (st' := [.int 1, .int 0, .int 0, .int x1]) rfl rfl rfl ?_
          refine pm_R_op pm_M177 (pc' := 10) (st' := [.int (-1), .int 0, .int x1]) rfl rfl rfl ?_
          refine pm_R_cs pm_M177 (pc' := 13) (ra := [.int (-1), .int 0, .int x1]) (rest := []) (ls' := [.int x1, .int 0, .int (-1)]) rfl rfl (Or.inl rfl) pm_M174 rfl rfl (Nat.le_of_ble_eq_true rfl) rfl rfl ?_
          refine pm_R_lo pm_M174 (pc' := 1) rfl rfl rfl ?_
          refine pm_R_lo pm_M174 (pc' := 2) rfl rfl rfl ?_
          refine pm_R_icmp pm_M174 (t := 14) (pc' := 5) rfl rfl rfl (fun c_9 => ?_) (fun c_9 => by exact absurd c_1 c_9)
          refine pm_R_op pm_M174 (pc' := 15) (st' := [.int 0]) rfl rfl rfl ?_
          refine pm_R_ret pm_M174 (r := some (.int 0)) rfl rfl ?_
          show pm_R _ 177 13 [.ref 41, .int 0, .int x1] [.int 0] _ _
          refine pm_R_ret pm_M177 (r := some (.int 0)) rfl rfl ?_
          show pm_R _ 200 6 [.ref 41, .int x1, .int x2] [.int 0] _ _
          refine pm_R_br pm_M200 (pc' := 18) (st' := []) rfl rfl ?_
          refine pm_R_op pm_M200 (pc' := 19) (st' := [.int 0]) rfl rfl rfl ?_
          refine pm_R_ret pm_M200 (r := some (.int 0)) rfl rfl ?_
          show pm_R _ 237 21 [.ref 41, .int x1, .int x2, .int x3, pm_no, pm_no, pm_no] [.int 0] _ _
          refine pm_R_br pm_M237 (pc' := 24) (st' := []) rfl rfl ?_
          refine pm_R_ldc2 pm_M237 (pc' := 27) rfl rfl rfl ?_
          refine pm_R_ret pm_M237 (r := some (.long (-1))) rfl rfl ?_
          show pm_R _ 0 839 [.ref 0, .ref 16, .ref 41, .int 0] [.long (-1), .long (-1)] _ _
          refine pm_R_op pm_M0 (pc' := 840) (st' := [.int 0]) (pm_q0_9 (Nat.le_of_ble_eq_true rfl)) rfl rfl ?_
          refine pm_R_br pm_M0 (pc' := 2121) (st' := []) (pm_q0_9 (Nat.le_of_ble_eq_true rfl)) rfl ?_
          exact p1_tail (hh 0 (Nat.le_of_ble_eq_true rfl)) (Nat.le_of_ble_eq_true rfl) (Nat.le_of_ble_eq_true rfl) (Nat.le_of_ble_eq_true rfl)
  · refine pm_R_lo pm_M62 (pc' := 5) rfl rfl rfl ?_
    refine pm_R_lo pm_M62 (pc' := 6) rfl rfl rfl ?_
    refine pm_R_get pm_M62 (pc' := 9) (v := .ref 17) rfl rfl (hh 16 (Nat.le_of_ble_eq_true rfl)) (Nat.le_of_ble_eq_true rfl) (Nat.le_of_ble_eq_true rfl) rfl rfl ?_
    refine pm_R_get pm_M62 (pc' := 12) (v := .ref 23) rfl rfl (hh 17 (Nat.le_of_ble_eq_true rfl)) (Nat.le_of_ble_eq_true rfl) (Nat.le_of_ble_eq_true rfl) rfl rfl ?_
    refine pm_R_op pm_M62 (pc' := 13) (st' := [.int 0, .ref 23, .int x1]) rfl rfl rfl ?_
    refine pm_R_iald pm_M62 (pc' := 14) (v := 0) rfl (hh 23 (Nat.le_of_ble_eq_true rfl)) (Nat.le_of_ble_eq_true rfl) rfl rfl rfl ?_
    refine pm_R_icmp pm_M62 (t := 21) (pc' := 17) rfl rfl rfl (fun c_10 => by exact absurd c_10 c_1) (fun c_10 => ?_)
    refine pm_R_op pm_M62 (pc' := 18) (st' := [.null]) rfl rfl rfl ?_
    refine pm_R_br pm_M62 (pc' := 30) rfl rfl ?_
    refine pm_R_ret pm_M62 (r := some (.null)) rfl rfl ?_
    show pm_R _ 115 5 [.ref 16, .int x1, .int x2, .int x3, pm_no, pm_no, pm_no, pm_no, pm_no] [.null] _ _
    refine pm_R_lo pm_M115 (pc' := 7) (ls' := [.ref 16, .int x1, .int x2, .int x3, .null, pm_no, pm_no, pm_no, pm_no]) (st' := []) rfl rfl rfl ?_
    refine pm_R_lo pm_M115 (pc' := 8) rfl rfl rfl ?_
    refine pm_R_lo pm_M115 (pc' := 9) rfl rfl rfl ?_
    refine pm_R_cv pm_M115 (pc' := 12) (a := 16) (ra := [.int x2]) (rest := []) (ls' := [.ref 16, .int x2]) rfl rfl (Or.inl rfl) pm_M66 (hh 16 (Nat.le_of_ble_eq_true rfl)) rfl (Nat.le_of_ble_eq_true rfl) (Nat.le_of_ble_eq_true rfl) rfl rfl (Nat.le_of_ble_eq_true rfl) rfl rfl ?_
    refine pm_R_lo pm_M66 (pc' := 1) rfl rfl rfl ?_
    refine pm_R_ifc pm_M66 (t := 17) (pc' := 4) rfl rfl rfl (fun c_11 => ?_) (fun c_11 => ?_)
    · refine pm_R_op pm_M66 (pc' := 18) (st' := [.null]) rfl rfl rfl ?_
      refine pm_R_br pm_M66 (pc' := 30) rfl rfl ?_
      refine pm_R_ret pm_M66 (r := some (.null)) rfl rfl ?_
      show pm_R _ 115 12 [.ref 16, .int x1, .int x2, .int x3, .null, pm_no, pm_no, pm_no, pm_no] [.null] _ _
      refine pm_R_lo pm_M115 (pc' := 14) (ls' := [.ref 16, .int x1, .int x2, .int x3, .null, .null, pm_no, pm_no, pm_no]) (st' := []) rfl rfl rfl ?_
      refine pm_R_lo pm_M115 (pc' := 16) rfl rfl rfl ?_
      refine pm_R_br pm_M115 (pc' := 31) rfl rfl ?_
      refine pm_R_ldc2 pm_M115 (pc' := 34) rfl rfl rfl ?_
      refine pm_R_ret pm_M115 (r := some (.long (-1))) rfl rfl ?_
      show pm_R _ 0 820 [.ref 0, .ref 16, .ref 41, .int 0] [.long (-1)] _ _
      refine pm_R_lo pm_M0 (pc' := 821) (pm_q0_8 (Nat.le_of_ble_eq_true rfl)) rfl rfl ?_
      refine pm_R_lo pm_M0 (pc' := 822) (pm_q0_8 (Nat.le_of_ble_eq_true rfl)) rfl rfl ?_
      refine pm_R_lo pm_M0 (pc' := 823) (pm_q0_8 (Nat.le_of_ble_eq_true rfl)) rfl rfl ?_
      refine pm_R_op pm_M0 (pc' := 824) (st' := [.int 1, .int 0, .ref 0, .ref 41, .long (-1)]) (pm_q0_8 (Nat.le_of_ble_eq_true rfl)) rfl rfl ?_
      refine pm_R_op pm_M0 (pc' := 825) (st' := [.int 1, .ref 0, .ref 41, .long (-1)]) (pm_q0_9 (Nat.le_of_ble_eq_true rfl)) rfl rfl ?_
      refine pm_R_iald pm_M0 (pc' := 826) (v := x1) (pm_q0_9 (Nat.le_of_ble_eq_true rfl)) (hh 0 (Nat.le_of_ble_eq_true rfl)) (Nat.le_of_ble_eq_true rfl) rfl hx1 rfl ?_
      refine pm_R_lo pm_M0 (pc' := 827) (pm_q0_9 (Nat.le_of_ble_eq_true rfl)) rfl rfl ?_
      refine pm_R_lo pm_M0 (pc' := 828) (pm_q0_9 (Nat.le_of_ble_eq_true rfl)) rfl rfl ?_
      refine pm_R_op pm_M0 (pc' := 829) (st' := [.int 2, .int 0, .ref 0, .int x1, .ref 41, .long (-1)]) (pm_q0_9 (Nat.le_of_ble_eq_true rfl)) rfl rfl ?_
      refine pm_R_op pm_M0 (pc' := 830) (st' := [.int 2, .ref 0, .int x1, .ref 41, .long (-1)]) (pm_q0_9 (Nat.le_of_ble_eq_true rfl)) rfl rfl ?_
      refine pm_R_iald pm_M0 (pc' := 831) (v := x2) (pm_q0_9 (Nat.le_of_ble_eq_true rfl)) (hh 0 (Nat.le_of_ble_eq_true rfl)) (Nat.le_of_ble_eq_true rfl) rfl hx2 rfl ?_
      refine pm_R_lo pm_M0 (pc' := 832) (pm_q0_9 (Nat.le_of_ble_eq_true rfl)) rfl rfl ?_
      refine pm_R_lo pm_M0 (pc' := 833) (pm_q0_9 (Nat.le_of_ble_eq_true rfl)) rfl rfl ?_
      refine pm_R_op pm_M0 (pc' := 834) (st' := [.int 3, .int 0, .ref 0, .int x2, .int x1, .ref 41, .long (-1)]) (pm_q0_9 (Nat.le_of_ble_eq_true rfl)) rfl rfl ?_
      refine pm_R_op pm_M0 (pc' := 835) (st' := [.int 3, .ref 0, .int x2, .int x1, .ref 41, .long (-1)]) (pm_q0_9 (Nat.le_of_ble_eq_true rfl)) rfl rfl ?_
      refine pm_R_iald pm_M0 (pc' := 836) (v := x3) (pm_q0_9 (Nat.le_of_ble_eq_true rfl)) (hh 0 (Nat.le_of_ble_eq_true rfl)) (Nat.le_of_ble_eq_true rfl) rfl hx3 rfl ?_
      refine pm_R_cv pm_M0 (pc' := 839) (a := 41) (ra := [.int x3, .int x2, .int x1]) (rest := [.long (-1)]) (ls' := [.ref 41, .int x1, .int x2, .int x3, pm_no, pm_no, pm_no]) (pm_q0_9 (Nat.le_of_ble_eq_true rfl)) rfl (Or.inl rfl) pm_M237 (hh 41 (Nat.le_of_ble_eq_true rfl)) rfl (Nat.le_of_ble_eq_true rfl) (Nat.le_of_ble_eq_true rfl) rfl rfl (Nat.le_of_ble_eq_true rfl) rfl rfl ?_
      refine pm_R_lo pm_M237 (pc' := 1) rfl rfl rfl ?_
      refine pm_R_op pm_M237 (pc' := 2) (st' := [.int 0, .ref 41]) rfl rfl rfl ?_
      refine pm_R_put pm_M237 (pc' := 5) (fs' := [.int 0, .ref 42, .ref 43, .ref 44, .ref 45, .ref 46, .ref 47, .ref 48, .ref 49, .ref 50, .int 0, .int 0, .int 0, .int 0, .int 0, .long 0, .int 0, .int 0, .int 0, .ref 51, .ref 52, .int 0, .int 0, .int 0, .int 0, .ref 53, .int 0, .int 0, .ref 54, .ref 55, .ref 56, .int 0, .ref 57, .ref 58, .ref 59, .ref 60, .ref 61, .ref 62, .ref 63, .ref 64, .ref 65, .ref 66, .int 0, .int 0, .int 0, .ref 67, .ref 68, .int 0, .ref 69, .int 0, .int 0, .ref 70, .ref 71]) rfl rfl rfl (hh 41 (Nat.le_of_ble_eq_true rfl)) (Nat.le_of_ble_eq_true rfl) (Nat.le_of_ble_eq_true rfl) (Nat.le_of_ble_eq_true rfl) rfl (Or.inl rfl) rfl rfl ?_
      refine pm_R_lo pm_M237 (pc' := 6) rfl rfl rfl ?_
      refine pm_R_op pm_M237 (pc' := 7) (st' := [.int 0, .int x3]) rfl rfl rfl ?_
      refine pm_R_op pm_M237 (pc' := 9) (st' := [.int 9, .int 0, .int x3]) rfl rfl rfl ?_
      refine pm_R_cs pm_M237 (pc' := 12) (ra := [.int 9, .int 0, .int x3]) (rest := []) (ls' := [.int x3, .int 0, .int 9]) rfl rfl (Or.inl rfl) pm_M174 rfl rfl (Nat.le_of_ble_eq_true rfl) rfl rfl ?_
      refine pm_R_lo pm_M174 (pc' := 1) rfl rfl rfl ?_
      refine pm_R_lo pm_M174 (pc' := 2) rfl rfl rfl ?_
      refine pm_R_icmp pm_M174 (t := 14) (pc' := 5) rfl rfl rfl (fun c_12 => ?_) (fun c_12 => ?_)
      · refine pm_R_op pm_M174 (pc' := 15) (st' := [.int 0]) rfl rfl rfl ?_
        refine pm_R_ret pm_M174 (r := some (.int 0)) rfl rfl ?_
        show pm_R _ 237 12 [.ref 41, .int x1, .int x2, .int x3, pm_no, pm_no, pm_no] [.int 0] _ _
        refine pm_R_br pm_M237 (pc' := 24) (st' := []) rfl rfl ?_
        refine pm_R_ldc2 pm_M237 (pc' := 27) rfl rfl rfl ?_
        refine pm_R_ret pm_M237 (r := some (.long (-1))) rfl rfl ?_
        show pm_R _ 0 839 [.ref 0, .ref 16, .ref 41, .int 0] [.long (-1), .long (-1)] _ _
        refine pm_R_op pm_M0 (pc' := 840) (st' := [.int 0]) (pm_q0_9 (Nat.le_of_ble_eq_true rfl)) rfl rfl ?_
        refine pm_R_br pm_M0 (pc' := 2121) (st' := []) (pm_q0_9 (Nat.le_of_ble_eq_true rfl)) rfl ?_
        exact p1_tail (hh 0 (Nat.le_of_ble_eq_true rfl)) (Nat.le_of_ble_eq_true rfl) (Nat.le_of_ble_eq_true rfl) (Nat.le_of_ble_eq_true rfl)
      · refine pm_R_lo pm_M174 (pc' := 6) rfl rfl rfl ?_
        refine pm_R_lo pm_M174 (pc' := 7) rfl rfl rfl ?_
        refine pm_R_icmp pm_M174 (t := 14) (pc' := 10) rfl rfl rfl (fun c_13 => ?_) (fun c_13 => ?_)
        · refine pm_R_op pm_M174 (pc' := 15) (st' := [.int 0]) rfl rfl rfl ?_
          refine pm_R_ret pm_M174 (r := some (.int 0)) rfl rfl ?_
          show pm_R _ 237 12 [.ref 41, .int x1, .int x2, .int x3, pm_no, pm_no, pm_no] [.int 0] _ _
          refine pm_R_br pm_M237 (pc' := 24) (st' := []) rfl rfl ?_
          refine pm_R_ldc2 pm_M237 (pc' := 27) rfl rfl rfl ?_
          refine pm_R_ret pm_M237 (r := some (.long (-1))) rfl rfl ?_
          show pm_R _ 0 839 [.ref 0, .ref 16, .ref 41, .int 0] [.long (-1), .long (-1)] _ _
          refine pm_R_op pm_M0 (pc' := 840) (st' := [.int 0]) (pm_q0_9 (Nat.le_of_ble_eq_true rfl)) rfl rfl ?_
          refine pm_R_br pm_M0 (pc' := 2121) (st' := []) (pm_q0_9 (Nat.le_of_ble_eq_true rfl)) rfl ?_
          exact p1_tail (hh 0 (Nat.le_of_ble_eq_true rfl)) (Nat.le_of_ble_eq_true rfl) (Nat.le_of_ble_eq_true rfl) (Nat.le_of_ble_eq_true rfl)
        · refine pm_R_op pm_M174 (pc' := 11) (st' := [.int 1]) rfl rfl rfl ?_
          refine pm_R_br pm_M174 (pc' := 15) rfl rfl ?_
          refine pm_R_ret pm_M174 (r := some (.int 1)) rfl rfl ?_
          show pm_R _ 237 12 [.ref 41, .int x1, .int x2, .int x3, pm_no, pm_no, pm_no] [.int 1] _ _
          refine pm_R_br pm_M237 (pc' := 15) (st' := []) rfl rfl ?_
          refine pm_R_lo pm_M237 (pc' := 16) rfl rfl rfl ?_
          refine pm_R_lo pm_M237 (pc' := 17) rfl rfl rfl ?_
          refine pm_R_lo pm_M237 (pc' := 18) rfl rfl rfl ?_
          refine pm_R_cv pm_M237 (pc' := 21) (a := 41) (ra := [.int x2, .int x1]) (rest := []) (ls' := [.ref 41, .int x1, .int x2]) rfl rfl (Or.inl rfl) pm_M200 rfl rfl (Nat.le_of_ble_eq_true rfl) (Nat.le_of_ble_eq_true rfl) rfl rfl (Nat.le_of_ble_eq_true rfl) rfl rfl ?_
          refine pm_R_lo pm_M200 (pc' := 1) rfl rfl rfl ?_
          refine pm_R_op pm_M200 (pc' := 2) (st' := [.int 0, .ref 41]) rfl rfl rfl ?_
          refine pm_R_lo pm_M200 (pc' := 3) rfl rfl rfl ?_
          refine pm_R_cv pm_M200 (pc' := 6) (a := 41) (ra := [.int x1, .int 0]) (rest := []) (ls' := [.ref 41, .int 0, .int x1]) rfl rfl (Or.inl rfl) pm_M177 rfl rfl (Nat.le_of_ble_eq_true rfl) (Nat.le_of_ble_eq_true rfl) rfl rfl (Nat.le_of_ble_eq_true rfl) rfl rfl ?_
          refine pm_R_lo pm_M177 (pc' := 1) rfl rfl rfl ?_
          refine pm_R_op pm_M177 (pc' := 2) (st' := [.int 0, .int x1]) rfl rfl rfl ?_
          refine pm_R_lo pm_M177 (pc' := 3) rfl rfl rfl ?_
          refine pm_R_get pm_M177 (pc' := 6) (v := .ref 46) rfl rfl rfl (Nat.le_of_ble_eq_true rfl) (Nat.le_of_ble_eq_true rfl) rfl rfl ?_
          refine pm_R_lo pm_M177 (pc' := 7) rfl rfl rfl ?_
          refine pm_R_iald pm_M177 (pc' := 8) (v := 0) rfl (hh 46 (Nat.le_of_ble_eq_true rfl)) (Nat.le_of_ble_eq_true rfl) rfl rfl rfl ?_
          refine pm_R_op pm_M177 (pc' := 9) (st' := [.int 1, .int 0, .int 0, .int x1]) rfl rfl rfl ?_
          refine pm_R_op pm_M177 (pc' := 10) (st' := [.int (-1), .int 0, .int x1]) rfl rfl rfl ?_
          refine pm_R_cs pm_M177 (pc' := 13) (ra := [.int (-1), .int 0, .int x1]) (rest := []) (ls' := [.int x1, .int 0, .int (-1)]) rfl rfl (Or.inl rfl) pm_M174 rfl rfl (Nat.le_of_ble_eq_true rfl) rfl rfl ?_
          refine pm_R_lo pm_M174 (pc' := 1) rfl rfl rfl ?_
          refine pm_R_lo pm_M174 (pc' := 2) rfl rfl rfl ?_
          refine pm_R_icmp pm_M174 (t := 14) (pc' := 5) rfl rfl rfl (fun c_14 => by exact absurd c_14 c_1) (fun c_14 => ?_)
          refine pm_R_lo pm_M174 (pc' := 6) rfl rfl rfl ?_
          refine pm_R_lo pm_M174 (pc' := 7) rfl rfl rfl ?_
          refine pm_R_icmp pm_M174 (t := 14) (pc' := 10) rfl rfl rfl (fun c_15 => ?_) (fun c_15 => by have z0 : ((-1) : Int32).toInt = -1 := (by decide); have z1 : ((0) : Int32).toInt = 0 := (by decide); have q0 := (Int32.le_iff_toInt_le.mp (Int32.not_lt.mp c_1)); have q1 := (Int32.le_iff_toInt_le.mp (Int32.not_lt.mp c_15)); exfalso; omega)
          refine pm_R_op pm_M174 (pc' := 15) (st' := [.int 0]) rfl rfl rfl ?_
          refine pm_R_ret pm_M174 (r := some (.int 0)) rfl rfl ?_
          show pm_R _ 177 13 [.ref 41, .int 0, .int x1] [.int 0] _ _
          refine pm_R_ret pm_M177 (r := some (.int 0)) rfl rfl ?_
          show pm_R _ 200 6 [.ref 41, .int x1, .int x2] [.int 0] _ _
          refine pm_R_br pm_M200 (pc' := 18) (st' := []) rfl rfl ?_
          refine pm_R_op pm_M200 (pc' := 19) (st' := [.int 0]) rfl rfl rfl ?_
          refine pm_R_ret pm_M200 (r := some (.int 0)) rfl rfl ?_
          show pm_R _ 237 21 [.ref 41, .int x1, .int x2, .int x3, pm_no, pm_no, pm_no] [.int 0] _ _
          refine pm_R_br pm_M237 (pc' := 24) (st' := []) rfl rfl ?_
          refine pm_R_ldc2 pm_M237 (pc' := 27) rfl rfl rfl ?_
          refine pm_R_ret pm_M237 (r := some (.long (-1))) rfl rfl ?_
          show pm_R _ 0 839 [.ref 0, .ref 16, .ref 41, .int 0] [.long (-1), .long (-1)] _ _
          refine pm_R_op pm_M0 (pc' := 840) (st' := [.int 0]) (pm_q0_9 (Nat.le_of_ble_eq_true rfl)) rfl rfl ?_
          refine pm_R_br pm_M0 (pc' := 2121) (st' := []) (pm_q0_9 (Nat.le_of_ble_eq_true rfl)) rfl ?_
          exact p1_tail (hh 0 (Nat.le_of_ble_eq_true rfl)) (Nat.le_of_ble_eq_true rfl) (Nat.le_of_ble_eq_true rfl) (Nat.le_of_ble_eq_true rfl)
    · refine pm_R_lo pm_M66 (pc' := 5) rfl rfl rfl ?_
      refine pm_R_lo pm_M66 (pc' := 6) rfl rfl rfl ?_
      refine pm_R_get pm_M66 (pc' := 9) (v := .ref 17) rfl rfl (hh 16 (Nat.le_of_ble_eq_true rfl)) (Nat.le_of_ble_eq_true rfl) (Nat.le_of_ble_eq_true rfl) rfl rfl ?_
      refine pm_R_get pm_M66 (pc' := 12) (v := .ref 23) rfl rfl (hh 17 (Nat.le_of_ble_eq_true rfl)) (Nat.le_of_ble_eq_true rfl) (Nat.le_of_ble_eq_true rfl) rfl rfl ?_
      refine pm_R_op pm_M66 (pc' := 13) (st' := [.int 1, .ref 23, .int x2]) rfl rfl rfl ?_
      refine pm_R_iald pm_M66 (pc' := 14) (v := 0) rfl (hh 23 (Nat.le_of_ble_eq_true rfl)) (Nat.le_of_ble_eq_true rfl) rfl rfl rfl ?_
      refine pm_R_icmp pm_M66 (t := 21) (pc' := 17) rfl rfl rfl (fun c_16 => by exact absurd c_16 c_11) (fun c_16 => ?_)
      refine pm_R_op pm_M66 (pc' := 18) (st' := [.null]) rfl rfl rfl ?_
      refine pm_R_br pm_M66 (pc' := 30) rfl rfl ?_
      refine pm_R_ret pm_M66 (r := some (.null)) rfl rfl ?_
      show pm_R _ 115 12 [.ref 16, .int x1, .int x2, .int x3, .null, pm_no, pm_no, pm_no, pm_no] [.null] _ _
      refine pm_R_lo pm_M115 (pc' := 14) (ls' := [.ref 16, .int x1, .int x2, .int x3, .null, .null, pm_no, pm_no, pm_no]) (st' := []) rfl rfl rfl ?_
      refine pm_R_lo pm_M115 (pc' := 16) rfl rfl rfl ?_
      refine pm_R_br pm_M115 (pc' := 31) rfl rfl ?_
      refine pm_R_ldc2 pm_M115 (pc' := 34) rfl rfl rfl ?_
      refine pm_R_ret pm_M115 (r := some (.long (-1))) rfl rfl ?_
      show pm_R _ 0 820 [.ref 0, .ref 16, .ref 41, .int 0] [.long (-1)] _ _
      refine pm_R_lo pm_M0 (pc' := 821) (pm_q0_8 (Nat.le_of_ble_eq_true rfl)) rfl rfl ?_
      refine pm_R_lo pm_M0 (pc' := 822) (pm_q0_8 (Nat.le_of_ble_eq_true rfl)) rfl rfl ?_
      refine pm_R_lo pm_M0 (pc' := 823) (pm_q0_8 (Nat.le_of_ble_eq_true rfl)) rfl rfl ?_
      refine pm_R_op pm_M0 (pc' := 824) (st' := [.int 1, .int 0, .ref 0, .ref 41, .long (-1)]) (pm_q0_8 (Nat.le_of_ble_eq_true rfl)) rfl rfl ?_
      refine pm_R_op pm_M0 (pc' := 825) (st' := [.int 1, .ref 0, .ref 41, .long (-1)]) (pm_q0_9 (Nat.le_of_ble_eq_true rfl)) rfl rfl ?_
      refine pm_R_iald pm_M0 (pc' := 826) (v := x1) (pm_q0_9 (Nat.le_of_ble_eq_true rfl)) (hh 0 (Nat.le_of_ble_eq_true rfl)) (Nat.le_of_ble_eq_true rfl) rfl hx1 rfl ?_
      refine pm_R_lo pm_M0 (pc' := 827) (pm_q0_9 (Nat.le_of_ble_eq_true rfl)) rfl rfl ?_
      refine pm_R_lo pm_M0 (pc' := 828) (pm_q0_9 (Nat.le_of_ble_eq_true rfl)) rfl rfl ?_
      refine pm_R_op pm_M0 (pc' := 829) (st' := [.int 2, .int 0, .ref 0, .int x1, .ref 41, .long (-1)]) (pm_q0_9 (Nat.le_of_ble_eq_true rfl)) rfl rfl ?_
      refine pm_R_op pm_M0 (pc' := 830) (st' := [.int 2, .ref 0, .int x1, .ref 41, .long (-1)]) (pm_q0_9 (Nat.le_of_ble_eq_true rfl)) rfl rfl ?_
      refine pm_R_iald pm_M0 (pc' := 831) (v := x2) (pm_q0_9 (Nat.le_of_ble_eq_true rfl)) (hh 0 (Nat.le_of_ble_eq_true rfl)) (Nat.le_of_ble_eq_true rfl) rfl hx2 rfl ?_
      refine pm_R_lo pm_M0 (pc' := 832) (pm_q0_9 (Nat.le_of_ble_eq_true rfl)) rfl rfl ?_
      refine pm_R_lo pm_M0 (pc' := 833) (pm_q0_9 (Nat.le_of_ble_eq_true rfl)) rfl rfl ?_
      refine pm_R_op pm_M0 (pc' := 834) (st' := [.int 3, .int 0, .ref 0, .int x2, .int x1, .ref 41, .long (-1)]) (pm_q0_9 (Nat.le_of_ble_eq_true rfl)) rfl rfl ?_
      refine pm_R_op pm_M0 (pc' := 835) (st' := [.int 3, .ref 0, .int x2, .int x1, .ref 41, .long (-1)]) (pm_q0_9 (Nat.le_of_ble_eq_true rfl)) rfl rfl ?_
      refine pm_R_iald pm_M0 (pc' := 836) (v := x3) (pm_q0_9 (Nat.le_of_ble_eq_true rfl)) (hh 0 (Nat.le_of_ble_eq_true rfl)) (Nat.le_of_ble_eq_true rfl) rfl hx3 rfl ?_
      refine pm_R_cv pm_M0 (pc' := 839) (a := 41) (ra := [.int x3, .int x2, .int x1]) (rest := [.long (-1)]) (ls' := [.ref 41, .int x1, .int x2, .int x3, pm_no, pm_no, pm_no]) (pm_q0_9 (Nat.le_of_ble_eq_true rfl)) rfl (Or.inl rfl) pm_M237 (hh 41 (Nat.le_of_ble_eq_true rfl)) rfl (Nat.le_of_ble_eq_true rfl) (Nat.le_of_ble_eq_true rfl) rfl rfl (Nat.le_of_ble_eq_true rfl) rfl rfl ?_
      refine pm_R_lo pm_M237 (pc' := 1) rfl rfl rfl ?_
      refine pm_R_op pm_M237 (pc' := 2) (st' := [.int 0, .ref 41]) rfl rfl rfl ?_
      refine pm_R_put pm_M237 (pc' := 5) (fs' := [.int 0, .ref 42, .ref 43, .ref 44, .ref 45, .ref 46, .ref 47, .ref 48, .ref 49, .ref 50, .int 0, .int 0, .int 0, .int 0, .int 0, .long 0, .int 0, .int 0, .int 0, .ref 51, .ref 52, .int 0, .int 0, .int 0, .int 0, .ref 53, .int 0, .int 0, .ref 54, .ref 55, .ref 56, .int 0, .ref 57, .ref 58, .ref 59, .ref 60, .ref 61, .ref 62, .ref 63, .ref 64, .ref 65, .ref 66, .int 0, .int 0, .int 0, .ref 67, .ref 68, .int 0, .ref 69, .int 0, .int 0, .ref 70, .ref 71]) rfl rfl rfl (hh 41 (Nat.le_of_ble_eq_true rfl)) (Nat.le_of_ble_eq_true rfl) (Nat.le_of_ble_eq_true rfl) (Nat.le_of_ble_eq_true rfl) rfl (Or.inl rfl) rfl rfl ?_
      refine pm_R_lo pm_M237 (pc' := 6) rfl rfl rfl ?_
      refine pm_R_op pm_M237 (pc' := 7) (st' := [.int 0, .int x3]) rfl rfl rfl ?_
      refine pm_R_op pm_M237 (pc' := 9) (st' := [.int 9, .int 0, .int x3]) rfl rfl rfl ?_
      refine pm_R_cs pm_M237 (pc' := 12) (ra := [.int 9, .int 0, .int x3]) (rest := []) (ls' := [.int x3, .int 0, .int 9]) rfl rfl (Or.inl rfl) pm_M174 rfl rfl (Nat.le_of_ble_eq_true rfl) rfl rfl ?_
      refine pm_R_lo pm_M174 (pc' := 1) rfl rfl rfl ?_
      refine pm_R_lo pm_M174 (pc' := 2) rfl rfl rfl ?_
      refine pm_R_icmp pm_M174 (t := 14) (pc' := 5) rfl rfl rfl (fun c_17 => ?_) (fun c_17 => ?_)
      · refine pm_R_op pm_M174 (pc' := 15) (st' := [.int 0]) rfl rfl rfl ?_
        refine pm_R_ret pm_M174 (r := some (.int 0)) rfl rfl ?_
        show pm_R _ 237 12 [.ref 41, .int x1, .int x2, .int x3, pm_no, pm_no, pm_no] [.int 0] _ _
        refine pm_R_br pm_M237 (pc' := 24) (st' := []) rfl rfl ?_
        refine pm_R_ldc2 pm_M237 (pc' := 27) rfl rfl rfl ?_
        refine pm_R_ret pm_M237 (r := some (.long (-1))) rfl rfl ?_
        show pm_R _ 0 839 [.ref 0, .ref 16, .ref 41, .int 0] [.long (-1), .long (-1)] _ _
        refine pm_R_op pm_M0 (pc' := 840) (st' := [.int 0]) (pm_q0_9 (Nat.le_of_ble_eq_true rfl)) rfl rfl ?_
        refine pm_R_br pm_M0 (pc' := 2121) (st' := []) (pm_q0_9 (Nat.le_of_ble_eq_true rfl)) rfl ?_
        exact p1_tail (hh 0 (Nat.le_of_ble_eq_true rfl)) (Nat.le_of_ble_eq_true rfl) (Nat.le_of_ble_eq_true rfl) (Nat.le_of_ble_eq_true rfl)
      · refine pm_R_lo pm_M174 (pc' := 6) rfl rfl rfl ?_
        refine pm_R_lo pm_M174 (pc' := 7) rfl rfl rfl ?_
        refine pm_R_icmp pm_M174 (t := 14) (pc' := 10) rfl rfl rfl (fun c_18 => ?_) (fun c_18 => ?_)
        · refine pm_R_op pm_M174 (pc' := 15) (st' := [.int 0]) rfl rfl rfl ?_
          refine pm_R_ret pm_M174 (r := some (.int 0)) rfl rfl ?_
          show pm_R _ 237 12 [.ref 41, .int x1, .int x2, .int x3, pm_no, pm_no, pm_no] [.int 0] _ _
          refine pm_R_br pm_M237 (pc' := 24) (st' := []) rfl rfl ?_
          refine pm_R_ldc2 pm_M237 (pc' := 27) rfl rfl rfl ?_
          refine pm_R_ret pm_M237 (r := some (.long (-1))) rfl rfl ?_
          show pm_R _ 0 839 [.ref 0, .ref 16, .ref 41, .int 0] [.long (-1), .long (-1)] _ _
          refine pm_R_op pm_M0 (pc' := 840) (st' := [.int 0]) (pm_q0_9 (Nat.le_of_ble_eq_true rfl)) rfl rfl ?_
          refine pm_R_br pm_M0 (pc' := 2121) (st' := []) (pm_q0_9 (Nat.le_of_ble_eq_true rfl)) rfl ?_
          exact p1_tail (hh 0 (Nat.le_of_ble_eq_true rfl)) (Nat.le_of_ble_eq_true rfl) (Nat.le_of_ble_eq_true rfl) (Nat.le_of_ble_eq_true rfl)
        · refine pm_R_op pm_M174 (pc' := 11) (st' := [.int 1]) rfl rfl rfl ?_
          refine pm_R_br pm_M174 (pc' := 15) rfl rfl ?_
          refine pm_R_ret pm_M174 (r := some (.int 1)) rfl rfl ?_
          show pm_R _ 237 12 [.ref 41, .int x1, .int x2, .int x3, pm_no, pm_no, pm_no] [.int 1] _ _
          refine pm_R_br pm_M237 (pc' := 15) (st' := []) rfl rfl ?_
          refine pm_R_lo pm_M237 (pc' := 16) rfl rfl rfl ?_
          refine pm_R_lo pm_M237 (pc' := 17) rfl rfl rfl ?_
          refine pm_R_lo pm_M237 (pc' := 18) rfl rfl rfl ?_
          refine pm_R_cv pm_M237 (pc' := 21) (a := 41) (ra := [.int x2, .int x1]) (rest := []) (ls' := [.ref 41, .int x1, .int x2]) rfl rfl (Or.inl rfl) pm_M200 rfl rfl (Nat.le_of_ble_eq_true rfl) (Nat.le_of_ble_eq_true rfl) rfl rfl (Nat.le_of_ble_eq_true rfl) rfl rfl ?_
          refine pm_R_lo pm_M200 (pc' := 1) rfl rfl rfl ?_
          refine pm_R_op pm_M200 (pc' := 2) (st' := [.int 0, .ref 41]) rfl rfl rfl ?_
          refine pm_R_lo pm_M200 (pc' := 3) rfl rfl rfl ?_
          refine pm_R_cv pm_M200 (pc' := 6) (a := 41) (ra := [.int x1, .int 0]) (rest := []) (ls' := [.ref 41, .int 0, .int x1]) rfl rfl (Or.inl rfl) pm_M177 rfl rfl (Nat.le_of_ble_eq_true rfl) (Nat.le_of_ble_eq_true rfl) rfl rfl (Nat.le_of_ble_eq_true rfl) rfl rfl ?_
          refine pm_R_lo pm_M177 (pc' := 1) rfl rfl rfl ?_
          refine pm_R_op pm_M177 (pc' := 2) (st' := [.int 0, .int x1]) rfl rfl rfl ?_
          refine pm_R_lo pm_M177 (pc' := 3) rfl rfl rfl ?_
          refine pm_R_get pm_M177 (pc' := 6) (v := .ref 46) rfl rfl rfl (Nat.le_of_ble_eq_true rfl) (Nat.le_of_ble_eq_true rfl) rfl rfl ?_
          refine pm_R_lo pm_M177 (pc' := 7) rfl rfl rfl ?_
          refine pm_R_iald pm_M177 (pc' := 8) (v := 0) rfl (hh 46 (Nat.le_of_ble_eq_true rfl)) (Nat.le_of_ble_eq_true rfl) rfl rfl rfl ?_
          refine pm_R_op pm_M177 (pc' := 9) (st' := [.int 1, .int 0, .int 0, .int x1]) rfl rfl rfl ?_
          refine pm_R_op pm_M177 (pc' := 10) (st' := [.int (-1), .int 0, .int x1]) rfl rfl rfl ?_
          refine pm_R_cs pm_M177 (pc' := 13) (ra := [.int (-1), .int 0, .int x1]) (rest := []) (ls' := [.int x1, .int 0, .int (-1)]) rfl rfl (Or.inl rfl) pm_M174 rfl rfl (Nat.le_of_ble_eq_true rfl) rfl rfl ?_
          refine pm_R_lo pm_M174 (pc' := 1) rfl rfl rfl ?_
          refine pm_R_lo pm_M174 (pc' := 2) rfl rfl rfl ?_
          refine pm_R_icmp pm_M174 (t := 14) (pc' := 5) rfl rfl rfl (fun c_19 => by exact absurd c_19 c_1) (fun c_19 => ?_)
          refine pm_R_lo pm_M174 (pc' := 6) rfl rfl rfl ?_
          refine pm_R_lo pm_M174 (pc' := 7) rfl rfl rfl ?_
          refine pm_R_icmp pm_M174 (t := 14) (pc' := 10) rfl rfl rfl (fun c_20 => ?_) (fun c_20 => by have z0 : ((-1) : Int32).toInt = -1 := (by decide); have z1 : ((0) : Int32).toInt = 0 := (by decide); have q0 := (Int32.le_iff_toInt_le.mp (Int32.not_lt.mp c_1)); have q1 := (Int32.le_iff_toInt_le.mp (Int32.not_lt.mp c_20)); exfalso; omega)
          refine pm_R_op pm_M174 (pc' := 15) (st' := [.int 0]) rfl rfl rfl ?_
          refine pm_R_ret pm_M174 (r := some (.int 0)) rfl rfl ?_
          show pm_R _ 177 13 [.ref 41, .int 0, .int x1] [.int 0] _ _
          refine pm_R_ret pm_M177 (r := some (.int 0)) rfl rfl ?_
          show pm_R _ 200 6 [.ref 41, .int x1, .int x2] [.int 0] _ _
          refine pm_R_br pm_M200 (pc' := 18) (st' := []) rfl rfl ?_
          refine pm_R_op pm_M200 (pc' := 19) (st' := [.int 0]) rfl rfl rfl ?_
          refine pm_R_ret pm_M200 (r := some (.int 0)) rfl rfl ?_
          show pm_R _ 237 21 [.ref 41, .int x1, .int x2, .int x3, pm_no, pm_no, pm_no] [.int 0] _ _
          refine pm_R_br pm_M237 (pc' := 24) (st' := []) rfl rfl ?_
          refine pm_R_ldc2 pm_M237 (pc' := 27) rfl rfl rfl ?_
          refine pm_R_ret pm_M237 (r := some (.long (-1))) rfl rfl ?_
          show pm_R _ 0 839 [.ref 0, .ref 16, .ref 41, .int 0] [.long (-1), .long (-1)] _ _
          refine pm_R_op pm_M0 (pc' := 840) (st' := [.int 0]) (pm_q0_9 (Nat.le_of_ble_eq_true rfl)) rfl rfl ?_
          refine pm_R_br pm_M0 (pc' := 2121) (st' := []) (pm_q0_9 (Nat.le_of_ble_eq_true rfl)) rfl ?_
          exact p1_tail (hh 0 (Nat.le_of_ble_eq_true rfl)) (Nat.le_of_ble_eq_true rfl) (Nat.le_of_ble_eq_true rfl) (Nat.le_of_ble_eq_true rfl)
