set_option maxRecDepth 100000 in
set_option maxHeartbeats 40000000 in
theorem p1_c22 (xs : Nat → Int32) (f : Nat → pm_E) (hh : ∀ i, i < 72 → f i = pm_fF 7 xs i) (x0 x1 x2 x3 x4 x5 x6 : Int32) (hx0 : xs 0 = x0) (hx1 : xs 1 = x1) (hx2 : xs 2 = x2) (hx3 : xs 3 = x3) (hx4 : xs 4 = x4) (hx5 : xs 5 = x5) (hx6 : xs 6 = x6) : pm_R 100 0 1169 [.ref 0, .ref 16, .ref 41, .int 0] [] (72, 52657, f) p1_Q := by
  refine pm_R_lo pm_M0 (pc' := 1170) (pm_q0_13 (Nat.le_of_ble_eq_true rfl)) rfl rfl ?_
  refine pm_R_lo pm_M0 (pc' := 1171) (pm_q0_13 (Nat.le_of_ble_eq_true rfl)) rfl rfl ?_
  refine pm_R_lo pm_M0 (pc' := 1172) (pm_q0_13 (Nat.le_of_ble_eq_true rfl)) rfl rfl ?_
  refine pm_R_op pm_M0 (pc' := 1173) (st' := [.int 1, .int 0, .ref 0, .ref 16]) (pm_q0_13 (Nat.le_of_ble_eq_true rfl)) rfl rfl ?_
  refine pm_R_op pm_M0 (pc' := 1174) (st' := [.int 1, .ref 0, .ref 16]) (pm_q0_13 (Nat.le_of_ble_eq_true rfl)) rfl rfl ?_
  refine pm_R_iald pm_M0 (pc' := 1175) (v := x1) (pm_q0_13 (Nat.le_of_ble_eq_true rfl)) (hh 0 (Nat.le_of_ble_eq_true rfl)) (Nat.le_of_ble_eq_true rfl) rfl hx1 rfl ?_
  refine pm_R_lo pm_M0 (pc' := 1176) (pm_q0_13 (Nat.le_of_ble_eq_true rfl)) rfl rfl ?_
  refine pm_R_lo pm_M0 (pc' := 1177) (pm_q0_14 (Nat.le_of_ble_eq_true rfl)) rfl rfl ?_
  refine pm_R_op pm_M0 (pc' := 1178) (st' := [.int 2, .int 0, .ref 0, .int x1, .ref 16]) (pm_q0_14 (Nat.le_of_ble_eq_true rfl)) rfl rfl ?_
  refine pm_R_op pm_M0 (pc' := 1179) (st' := [.int 2, .ref 0, .int x1, .ref 16]) (pm_q0_14 (Nat.le_of_ble_eq_true rfl)) rfl rfl ?_
  refine pm_R_iald pm_M0 (pc' := 1180) (v := x2) (pm_q0_14 (Nat.le_of_ble_eq_true rfl)) (hh 0 (Nat.le_of_ble_eq_true rfl)) (Nat.le_of_ble_eq_true rfl) rfl hx2 rfl ?_
  refine pm_R_lo pm_M0 (pc' := 1181) (pm_q0_14 (Nat.le_of_ble_eq_true rfl)) rfl rfl ?_
  refine pm_R_lo pm_M0 (pc' := 1182) (pm_q0_14 (Nat.le_of_ble_eq_true rfl)) rfl rfl ?_
  refine pm_R_op pm_M0 (pc' := 1183) (st' := [.int 3, .int 0, .ref 0, .int x2, .int x1, .ref 16]) (pm_q0_14 (Nat.le_of_ble_eq_true rfl)) rfl rfl ?_
  refine pm_R_op pm_M0 (pc' := 1184) (st' := [.int 3, .ref 0, .int x2, .int x1, .ref 16]) (pm_q0_14 (Nat.le_of_ble_eq_true rfl)) rfl rfl ?_
  refine pm_R_iald pm_M0 (pc' := 1185) (v := x3) (pm_q0_14 (Nat.le_of_ble_eq_true rfl)) (hh 0 (Nat.le_of_ble_eq_true rfl)) (Nat.le_of_ble_eq_true rfl) rfl hx3 rfl ?_
  refine pm_R_cv pm_M0 (pc' := 1188) (a := 16) (ra := [.int x3, .int x2, .int x1]) (rest := []) (ls' := [.ref 16, .int x1, .int x2, .int x3, pm_no]) (pm_q0_14 (Nat.le_of_ble_eq_true rfl)) rfl (Or.inl rfl) pm_M142 (hh 16 (Nat.le_of_ble_eq_true rfl)) rfl (Nat.le_of_ble_eq_true rfl) (Nat.le_of_ble_eq_true rfl) rfl rfl (Nat.le_of_ble_eq_true rfl) rfl rfl ?_
  refine pm_R_lo pm_M142 (pc' := 1) rfl rfl rfl ?_
  refine pm_R_lo pm_M142 (pc' := 2) rfl rfl rfl ?_
  refine pm_R_cv pm_M142 (pc' := 5) (a := 16) (ra := [.int x1]) (rest := []) (ls' := [.ref 16, .int x1]) rfl rfl (Or.inl rfl) pm_M139 (hh 16 (Nat.le_of_ble_eq_true rfl)) rfl (Nat.le_of_ble_eq_true rfl) (Nat.le_of_ble_eq_true rfl) rfl rfl (Nat.le_of_ble_eq_true rfl) rfl rfl ?_
  refine pm_R_lo pm_M139 (pc' := 1) rfl rfl rfl ?_
  refine pm_R_ifc pm_M139 (t := 17) (pc' := 4) rfl rfl rfl (fun c_1 => ?_) (fun c_1 => ?_)
  · refine pm_R_op pm_M139 (pc' := 18) (st' := [.null]) rfl rfl rfl ?_
    refine pm_R_br pm_M139 (pc' := 30) rfl rfl ?_
    refine pm_R_ret pm_M139 (r := some (.null)) rfl rfl ?_
    show pm_R _ 142 5 [.ref 16, .int x1, .int x2, .int x3, pm_no] [.null] _ _
    refine pm_R_lo pm_M142 (pc' := 7) (ls' := [.ref 16, .int x1, .int x2, .int x3, .null]) (st' := []) rfl rfl rfl ?_
    refine pm_R_lo pm_M142 (pc' := 9) rfl rfl rfl ?_
    refine pm_R_br pm_M142 (pc' := 34) rfl rfl ?_
    refine pm_R_op pm_M142 (pc' := 36) (st' := [.int (-2)]) rfl rfl rfl ?_
    refine pm_R_ret pm_M142 (r := some (.int (-2))) rfl rfl ?_
    show pm_R _ 0 1188 [.ref 0, .ref 16, .ref 41, .int 0] [.int (-2)] _ _
    refine pm_R_lo pm_M0 (pc' := 1189) (pm_q0_14 (Nat.le_of_ble_eq_true rfl)) rfl rfl ?_
    refine pm_R_lo pm_M0 (pc' := 1190) (pm_q0_14 (Nat.le_of_ble_eq_true rfl)) rfl rfl ?_
    refine pm_R_lo pm_M0 (pc' := 1191) (pm_q0_14 (Nat.le_of_ble_eq_true rfl)) rfl rfl ?_
    refine pm_R_op pm_M0 (pc' := 1192) (st' := [.int 1, .int 0, .ref 0, .ref 41, .int (-2)]) (pm_q0_14 (Nat.le_of_ble_eq_true rfl)) rfl rfl ?_
    refine pm_R_op pm_M0 (pc' := 1193) (st' := [.int 1, .ref 0, .ref 41, .int (-2)]) (pm_q0_14 (Nat.le_of_ble_eq_true rfl)) rfl rfl ?_
    refine pm_R_iald pm_M0 (pc' := 1194) (v := x1) (pm_q0_14 (Nat.le_of_ble_eq_true rfl)) (hh 0 (Nat.le_of_ble_eq_true rfl)) (Nat.le_of_ble_eq_true rfl) rfl hx1 rfl ?_
    refine pm_R_lo pm_M0 (pc' := 1195) (pm_q0_14 (Nat.le_of_ble_eq_true rfl)) rfl rfl ?_
    refine pm_R_lo pm_M0 (pc' := 1196) (pm_q0_14 (Nat.le_of_ble_eq_true rfl)) rfl rfl ?_
    refine pm_R_op pm_M0 (pc' := 1197) (st' := [.int 2, .int 0, .ref 0, .int x1, .ref 41, .int (-2)]) (pm_q0_14 (Nat.le_of_ble_eq_true rfl)) rfl rfl ?_
    refine pm_R_op pm_M0 (pc' := 1198) (st' := [.int 2, .ref 0, .int x1, .ref 41, .int (-2)]) (pm_q0_14 (Nat.le_of_ble_eq_true rfl)) rfl rfl ?_
    refine pm_R_iald pm_M0 (pc' := 1199) (v := x2) (pm_q0_14 (Nat.le_of_ble_eq_true rfl)) (hh 0 (Nat.le_of_ble_eq_true rfl)) (Nat.le_of_ble_eq_true rfl) rfl hx2 rfl ?_
    refine pm_R_lo pm_M0 (pc' := 1200) (pm_q0_14 (Nat.le_of_ble_eq_true rfl)) rfl rfl ?_
    refine pm_R_lo pm_M0 (pc' := 1201) (pm_q0_14 (Nat.le_of_ble_eq_true rfl)) rfl rfl ?_
    refine pm_R_op pm_M0 (pc' := 1202) (st' := [.int 3, .int 0, .ref 0, .int x2, .int x1, .ref 41, .int (-2)]) (pm_q0_14 (Nat.le_of_ble_eq_true rfl)) rfl rfl ?_
    refine pm_R_op pm_M0 (pc' := 1203) (st' := [.int 3, .ref 0, .int x2, .int x1, .ref 41, .int (-2)]) (pm_q0_14 (Nat.le_of_ble_eq_true rfl)) rfl rfl ?_
    refine pm_R_iald pm_M0 (pc' := 1204) (v := x3) (pm_q0_14 (Nat.le_of_ble_eq_true rfl)) (hh 0 (Nat.le_of_ble_eq_true rfl)) (Nat.le_of_ble_eq_true rfl) rfl hx3 rfl ?_
    refine pm_R_cv pm_M0 (pc' := 1207) (a := 41) (ra := [.int x3, .int x2, .int x1]) (rest := [.int (-2)]) (ls' := [.ref 41, .int x1, .int x2, .int x3]) (pm_q0_14 (Nat.le_of_ble_eq_true rfl)) rfl (Or.inl rfl) pm_M258 (hh 41 (Nat.le_of_ble_eq_true rfl)) rfl (Nat.le_of_ble_eq_true rfl) (Nat.le_of_ble_eq_true rfl) rfl rfl (Nat.le_of_ble_eq_true rfl) rfl rfl ?_
    refine pm_R_lo pm_M258 (pc' := 1) rfl rfl rfl ?_
    refine pm_R_op pm_M258 (pc' := 2) (st' := [.int 0, .ref 41]) rfl rfl rfl ?_
    refine pm_R_put pm_M258 (pc' := 5) (fs' := [.int 0, .ref 42, .ref 43, .ref 44, .ref 45, .ref 46, .ref 47, .ref 48, .ref 49, .ref 50, .int 0, .int 0, .int 0, .int 0, .int 0, .long 0, .int 0, .int 0, .int 0, .ref 51, .ref 52, .int 0, .int 0, .int 0, .int 0, .ref 53, .int 0, .int 0, .ref 54, .ref 55, .ref 56, .int 0, .ref 57, .ref 58, .ref 59, .ref 60, .ref 61, .ref 62, .ref 63, .ref 64, .ref 65, .ref 66, .int 0, .int 0, .int 0, .ref 67, .ref 68, .int 0, .ref 69, .int 0, .int 0, .ref 70, .ref 71]) rfl rfl rfl (hh 41 (Nat.le_of_ble_eq_true rfl)) (Nat.le_of_ble_eq_true rfl) (Nat.le_of_ble_eq_true rfl) (Nat.le_of_ble_eq_true rfl) rfl (Or.inl rfl) rfl rfl ?_
    refine pm_R_lo pm_M258 (pc' := 6) rfl rfl rfl ?_
    refine pm_R_lo pm_M258 (pc' := 7) rfl rfl rfl ?_
    refine pm_R_cv pm_M258 (pc' := 10) (a := 41) (ra := [.int x1]) (rest := []) (ls' := [.ref 41, .int x1, pm_no, pm_no, pm_no, pm_no]) rfl rfl (Or.inl rfl) pm_M254 rfl rfl (Nat.le_of_ble_eq_true rfl) (Nat.le_of_ble_eq_true rfl) rfl rfl (Nat.le_of_ble_eq_true rfl) rfl rfl ?_
    refine pm_R_lo pm_M254 (pc' := 1) rfl rfl rfl ?_
    refine pm_R_op pm_M254 (pc' := 2) (st' := [.int 2, .ref 41]) rfl rfl rfl ?_
    refine pm_R_lo pm_M254 (pc' := 3) rfl rfl rfl ?_
    refine pm_R_cv pm_M254 (pc' := 6) (a := 41) (ra := [.int x1, .int 2]) (rest := []) (ls' := [.ref 41, .int 2, .int x1]) rfl rfl (Or.inl rfl) pm_M177 rfl rfl (Nat.le_of_ble_eq_true rfl) (Nat.le_of_ble_eq_true rfl) rfl rfl (Nat.le_of_ble_eq_true rfl) rfl rfl ?_
    refine pm_R_lo pm_M177 (pc' := 1) rfl rfl rfl ?_
    refine pm_R_op pm_M177 (pc' := 2) (st' := [.int 0, .int x1]) rfl rfl rfl ?_
    refine pm_R_lo pm_M177 (pc' := 3) rfl rfl rfl ?_
    refine pm_R_get pm_M177 (pc' := 6) (v := .ref 46) rfl rfl rfl (Nat.le_of_ble_eq_true rfl) (Nat.le_of_ble_eq_true rfl) rfl rfl ?_
    refine pm_R_lo pm_M177 (pc' := 7) rfl rfl rfl ?_
    refine pm_R_iald pm_M177 (pc' := 8) (v := 0) rfl (hh 46 (Nat.le_of_ble_eq_true rfl)) (Nat.le_of_ble_eq_true rfl) rfl rfl rfl ?_
    refine pm_R_op pm_M177 (pc' := 9) (st' := [.int 1, .int 0, .int 0, .int x1]) rfl rfl rfl ?_
    refine pm_R_op pm_M177 (pc' := 10) (st' := [.int (-1), .int 0, .int x1]) rfl rfl rfl ?_
    refine pm_R_cs pm_M177 (pc' := 13) (ra := [.int (-1), .int 0, .int x1]) (rest := []) (ls' := [.int x1, .int 0, .int (-1)]) rfl rfl (Or.inl rfl) pm_M174 rfl rfl (Nat.le_of_ble_eq_true rfl) rfl rfl ?_
    refine pm_R_lo pm_M174 (pc' := 1) rfl rfl rfl ?_
    refine pm_R_lo pm_M174 (pc' := 2) rfl rfl rfl ?_
    refine pm_R_icmp pm_M174 (t := 14) (pc' := 5) rfl rfl rfl (fun c_2 => ?_) (fun c_2 => by exact absurd c_1 c_2)
    refine pm_R_op pm_M174 (pc' := 15) (st' := [.int 0]) rfl rfl rfl ?_
    refine pm_R_ret pm_M174 (r := some (.int 0)) rfl rfl ?_
    show pm_R _ 177 13 [.ref 41, .int 2, .int x1] [.int 0] _ _
    refine pm_R_ret pm_M177 (r := some (.int 0)) rfl rfl ?_
    show pm_R _ 254 6 [.ref 41, .int x1, pm_no, pm_no, pm_no, pm_no] [.int 0] _ _
    refine pm_R_br pm_M254 (pc' := 9) (st' := []) rfl rfl ?_
    refine pm_R_op pm_M254 (pc' := 10) (st' := [.int 0]) rfl rfl rfl ?_
    refine pm_R_ret pm_M254 (r := some (.int 0)) rfl rfl ?_
    show pm_R _ 258 10 [.ref 41, .int x1, .int x2, .int x3] [.int 0] _ _
    refine pm_R_br pm_M258 (pc' := 47) (st' := []) rfl rfl ?_
    refine pm_R_op pm_M258 (pc' := 49) (st' := [.int (-2)]) rfl rfl rfl ?_
    refine pm_R_ret pm_M258 (r := some (.int (-2))) rfl rfl ?_
    show pm_R _ 0 1207 [.ref 0, .ref 16, .ref 41, .int 0] [.int (-2), .int (-2)] _ _
    refine pm_R_br pm_M0 (pc' := 2121) (st' := []) (pm_q0_14 (Nat.le_of_ble_eq_true rfl)) rfl ?_
    exact p1_tail (hh 0 (Nat.le_of_ble_eq_true rfl)) (Nat.le_of_ble_eq_true rfl) (Nat.le_of_ble_eq_true rfl) (Nat.le_of_ble_eq_true rfl)
  · refine pm_R_lo pm_M139 (pc' := 5) rfl rfl rfl ?_
    refine pm_R_lo pm_M139 (pc' := 6) rfl rfl rfl ?_
    refine pm_R_get pm_M139 (pc' := 9) (v := .ref 17) rfl rfl (hh 16 (Nat.le_of_ble_eq_true rfl)) (Nat.le_of_ble_eq_true rfl) (Nat.le_of_ble_eq_true rfl) rfl rfl ?_
    refine pm_R_get pm_M139 (pc' := 12) (v := .ref 23) rfl rfl (hh 17 (Nat.le_of_ble_eq_true rfl)) (Nat.le_of_ble_eq_true rfl) (Nat.le_of_ble_eq_true rfl) rfl rfl ?_
    refine pm_R_op pm_M139 (pc' := 13) (st' := [.int 2, .ref 23, .int x1]) rfl rfl rfl ?_
    refine pm_R_iald pm_M139 (pc' := 14) (v := 0) rfl (hh 23 (Nat.le_of_ble_eq_true rfl)) (Nat.le_of_ble_eq_true rfl) rfl rfl rfl ?_
    refine pm_R_icmp pm_M139 (t := 21) (pc' := 17) rfl rfl rfl (fun c_3 => by exact absurd c_3 c_1) (fun c_3 => ?_)
    refine pm_R_op pm_M139 (pc' := 18) (st' := [.null]) rfl rfl rfl ?_
    refine pm_R_br pm_M139 (pc' := 30) rfl rfl ?_
    refine pm_R_ret pm_M139 (r := some (.null)) rfl rfl ?_
    show pm_R _ 142 5 [.ref 16, .int x1, .int x2, .int x3, pm_no] [.null] _ _
    refine pm_R_lo pm_M142 (pc' := 7) (ls' := [.ref 16, .int x1, .int x2, .int x3, .null]) (st' := []) rfl rfl rfl ?_
    refine pm_R_lo pm_M142 (pc' := 9) rfl rfl rfl ?_
    refine pm_R_br pm_M142 (pc' := 34) rfl rfl ?_
    refine pm_R_op pm_M142 (pc' := 36) (st' := [.int (-2)]) rfl rfl rfl ?_
    refine pm_R_ret pm_M142 (r := some (.int (-2))) rfl rfl ?_
    show pm_R _ 0 1188 [.ref 0, .ref 16, .ref 41, .int 0] [.int (-2)] _ _
    refine pm_R_lo pm_M0 (pc' := 1189) (pm_q0_14 (Nat.le_of_ble_eq_true rfl)) rfl rfl ?_
    refine pm_R_lo pm_M0 (pc' := 1190) (pm_q0_14 (Nat.le_of_ble_eq_true rfl)) rfl rfl ?_
    refine pm_R_lo pm_M0 (pc' := 1191) (pm_q0_14 (Nat.le_of_ble_eq_true rfl)) rfl rfl ?_
    refine pm_R_op pm_M0 (pc' := 1192) (st' := [.int 1, .int 0, .ref 0, .ref 41, .int (-2)]) (pm_q0_14 (Nat.le_of_ble_eq_true rfl)) rfl rfl ?_
    refine pm_R_op pm_M0 (pc' := 1193) (st' := [.int 1, .ref 0, .ref 41, .int (-2)]) (pm_q0_14 (Nat.le_of_ble_eq_true rfl)) rfl rfl ?_
    refine pm_R_iald pm_M0 (pc' := 1194) (v := x1) (pm_q0_14 (Nat.le_of_ble_eq_true rfl)) (hh 0 (Nat.le_of_ble_eq_true rfl)) (Nat.le_of_ble_eq_true rfl) rfl hx1 rfl ?_
    refine pm_R_lo pm_M0 (pc' := 1195) (pm_q0_14 (Nat.le_of_ble_eq_true rfl)) rfl rfl ?_
    refine pm_R_lo pm_M0 (pc' := 1196) (pm_q0_14 (Nat.le_of_ble_eq_true rfl)) rfl rfl ?_
    refine pm_R_op pm_M0 (pc' := 1197) (st' := [.int 2, .int 0, .ref 0, .int x1, .ref 41, .int (-2)]) (pm_q0_14 (Nat.le_of_ble_eq_true rfl)) rfl rfl ?_
    refine pm_R_op pm_M0 (pc' := 1198) (st' := [.int 2, .ref 0, .int x1, .ref 41, .int (-2)]) (pm_q0_14 (Nat.le_of_ble_eq_true rfl)) rfl rfl ?_
    refine pm_R_iald pm_M0 (pc' := 1199) (v := x2) (pm_q0_14 (Nat.le_of_ble_eq_true rfl)) (hh 0 (Nat.le_of_ble_eq_true rfl)) (Nat.le_of_ble_eq_true rfl) rfl hx2 rfl ?_
    refine pm_R_lo pm_M0 (pc' := 1200) (pm_q0_14 (Nat.le_of_ble_eq_true rfl)) rfl rfl ?_
    refine pm_R_lo pm_M0 (pc' := 1201) (pm_q0_14 (Nat.le_of_ble_eq_true rfl)) rfl rfl ?_
    refine pm_R_op pm_M0 (pc' := 1202) (st' := [.int 3, .int 0, .ref 0, .int x2, .int x1, .ref 41, .int (-2)]) (pm_q0_14 (Nat.le_of_ble_eq_true rfl)) rfl rfl ?_
    refine pm_R_op pm_M0 (pc' := 1203) (st' := [.int 3, .ref 0, .int x2, .int x1, .ref 41, .int (-2)]) (pm_q0_14 (Nat.le_of_ble_eq_true rfl)) rfl rfl ?_
    refine pm_R_iald pm_M0 (pc' := 1204) (v := x3) (pm_q0_14 (Nat.le_of_ble_eq_true rfl)) (hh 0 (Nat.le_of_ble_eq_true rfl)) (Nat.le_of_ble_eq_true rfl) rfl hx3 rfl ?_
    refine pm_R_cv pm_M0 (pc' := 1207) (a := 41) (ra := [.int x3, .int x2, .int x1]) (rest := [.int (-2)]) (ls' := [.ref 41, .int x1, .int x2, .int x3]) (pm_q0_14 (Nat.le_of_ble_eq_true rfl)) rfl (Or.inl rfl) pm_M258 (hh 41 (Nat.le_of_ble_eq_true rfl)) rfl (Nat.le_of_ble_eq_true rfl) (Nat.le_of_ble_eq_true rfl) rfl rfl (Nat.le_of_ble_eq_true rfl) rfl rfl ?_
    refine pm_R_lo pm_M258 (pc' := 1) rfl rfl rfl ?_
    refine pm_R_op pm_M258 (pc' := 2) (st' := [.int 0, .ref 41]) rfl rfl rfl ?_
    refine pm_R_put pm_M258 (pc' := 5) (fs' := [.int 0, .ref 42, .ref 43, .ref 44, .ref 45, .ref 46, .ref 47, .ref 48, .ref 49, .ref 50, .int 0, .int 0, .int 0, .int 0, .int 0, .long 0, .int 0, .int 0, .int 0, .ref 51, .ref 52, .int 0, .int 0, .int 0, .int 0, .ref 53, .int 0, .int 0, .ref 54, .ref 55, .ref 56, .int 0, .ref 57, .ref 58, .ref 59, .ref 60, .ref 61, .ref 62, .ref 63, .ref 64, .ref 65, .ref 66, .int 0, .int 0, .int 0, .ref 67, .ref 68, .int 0, .ref 69, .int 0, .int 0, .ref 70, .ref 71]) rfl rfl rfl (hh 41 (Nat.le_of_ble_eq_true rfl)) (Nat.le_of_ble_eq_true rfl) (Nat.le_of_ble_eq_true rfl) (Nat.le_of_ble_eq_true rfl) rfl (Or.inl rfl) rfl rfl ?_
    refine pm_R_lo pm_M258 (pc' := 6) rfl rfl rfl ?_
    refine pm_R_lo pm_M258 (pc' := 7) rfl rfl rfl ?_
    refine pm_R_cv pm_M258 (pc' := 10) (a := 41) (ra := [.int x1]) (rest := []) (ls' := [.ref 41, .int x1, pm_no, pm_no, pm_no, pm_no]) rfl rfl (Or.inl rfl) pm_M254 rfl rfl (Nat.le_of_ble_eq_true rfl) (Nat.le_of_ble_eq_true rfl) rfl rfl (Nat.le_of_ble_eq_true rfl) rfl rfl ?_
    refine pm_R_lo pm_M254 (pc' := 1) rfl rfl rfl ?_
    refine pm_R_op pm_M254 (pc' := 2) (st' := [.int 2, .ref 41]) rfl rfl rfl ?_
    refine pm_R_lo pm_M254 (pc' := 3) rfl rfl rfl ?_
    refine pm_R_cv pm_M254 (pc' := 6) (a := 41) (ra := [.int x1, .int 2]) (rest := []) (ls' := [.ref 41, .int 2, .int x1]) rfl rfl (Or.inl rfl) pm_M177 rfl rfl (Nat.le_of_ble_eq_true rfl) (Nat.le_of_ble_eq_true rfl) rfl rfl (Nat.le_of_ble_eq_true rfl) rfl rfl ?_
    refine pm_R_lo pm_M177 (pc' := 1) rfl rfl rfl ?_
    refine pm_R_op pm_M177 (pc' := 2) (st' := [.int 0, .int x1]) rfl rfl rfl ?_
    refine pm_R_lo pm_M177 (pc' := 3) rfl rfl rfl ?_
    refine pm_R_get pm_M177 (pc' := 6) (v := .ref 46) rfl rfl rfl (Nat.le_of_ble_eq_true rfl) (Nat.le_of_ble_eq_true rfl) rfl rfl ?_
    refine pm_R_lo pm_M177 (pc' := 7) rfl rfl rfl ?_
    refine pm_R_iald pm_M177 (pc' := 8) (v := 0) rfl (hh 46 (Nat.le_of_ble_eq_true rfl)) (Nat.le_of_ble_eq_true rfl) rfl rfl rfl ?_
    refine pm_R_op pm_M177 (pc' := 9) (st' := [.int 1, .int 0, .int 0, .int x1]) rfl rfl rfl ?_
    refine pm_R_op pm_M177 (pc' := 10) (st' := [.int (-1), .int 0, .int x1]) rfl rfl rfl ?_
    refine pm_R_cs pm_M177 (pc' := 13) (ra := [.int (-1), .int 0, .int x1]) (rest := []) (ls' := [.int x1, .int 0, .int (-1)]) rfl rfl (Or.inl rfl) pm_M174 rfl rfl (Nat.le_of_ble_eq_true rfl) rfl rfl ?_
    refine pm_R_lo pm_M174 (pc' := 1) rfl rfl rfl ?_
    refine pm_R_lo pm_M174 (pc' := 2) rfl rfl rfl ?_
    refine pm_R_icmp pm_M174 (t := 14) (pc' := 5) rfl rfl rfl (fun c_4 => by exact absurd c_4 c_1) (fun c_4 => ?_)
    refine pm_R_lo pm_M174 (pc' := 6) rfl rfl rfl ?_
    refine pm_R_lo pm_M174 (pc' := 7) rfl rfl rfl ?_
    refine pm_R_icmp pm_M174 (t := 14) (pc' := 10) rfl rfl rfl (fun c_5 => ?_) (fun c_5 => by have z0 : ((-1) : Int32).toInt = -1 := (by decide); have z1 : ((0) : Int32).toInt = 0 := (by decide); have q0 := (Int32.le_iff_toInt_le.mp (Int32.not_lt.mp c_1)); have q1 := (Int32.le_iff_toInt_le.mp (Int32.not_lt.mp c_5)); exfalso; omega)
    refine pm_R_op pm_M174 (pc' := 15) (st' := [.int 0]) rfl rfl rfl ?_
    refine pm_R_ret pm_M174 (r := some (.int 0)) rfl rfl ?_
    show pm_R _ 177 13 [.ref 41, .int 2, .int x1] [.int 0] _ _
    refine pm_R_ret pm_M177 (r := some (.int 0)) rfl rfl ?_
    show pm_R _ 254 6 [.ref 41, .int x1, pm_no, pm_no, pm_no, pm_no] [.int 0] _ _
    refine pm_R_br pm_M254 (pc' := 9) (st' := []) rfl rfl ?_
    refine pm_R_op pm_M254 (pc' := 10) (st' := [.int 0]) rfl rfl rfl ?_
    refine pm_R_ret pm_M254 (r := some (.int 0)) rfl rfl ?_
    show pm_R _ 258 10 [.ref 41, .int x1, .int x2, .int x3] [.int 0] _ _
    refine pm_R_br pm_M258 (pc' := 47) (st' := []) rfl rfl ?_
    refine pm_R_op pm_M258 (pc' := 49) (st' := [.int (-2)]) rfl rfl rfl ?_
    refine pm_R_ret pm_M258 (r := some (.int (-2))) rfl rfl ?_
    show pm_R _ 0 1207 [.ref 0, .ref 16, .ref 41, .int 0] [.int (-2), .int (-2)] _ _
    refine pm_R_br pm_M0 (pc' := 2121) (st' := []) (pm_q0_14 (Nat.le_of_ble_eq_true rfl)) rfl ?_
    exact p1_tail (hh 0 (Nat.le_of_ble_eq_true rfl)) (Nat.le_of_ble_eq_true rfl) (Nat.le_of_ble_eq_true rfl) (Nat.le_of_ble_eq_true rfl)
set_option maxRecDepth 100000 in
set_option maxHeartbeats 40000000 in
theorem p1_c23 (xs : Nat → Int32) (f : Nat → pm_E) (hh : ∀ i, i < 72 → f i = pm_fF 7 xs i) (x0 x1 x2 x3 x4 x5 x6 : Int32) (hx0 : xs 0 = x0) (hx1 : xs 1 = x1) (hx2 : xs 2 = x2) (hx3 : xs 3 = x3) (hx4 : xs 4 = x4) (hx5 : xs 5 = x5) (hx6 : xs 6 = x6) : pm_R 100 0 1212 [.ref 0, .ref 16, .ref 41, .int 0] [] (72, 52657, f) p1_Q := by
  refine pm_R_lo pm_M0 (pc' := 1213) (pm_q0_14 (Nat.le_of_ble_eq_true rfl)) rfl rfl ?_
  refine pm_R_lo pm_M0 (pc' := 1214) (pm_q0_14 (Nat.le_of_ble_eq_true rfl)) rfl rfl ?_
  refine pm_R_lo pm_M0 (pc' := 1215) (pm_q0_14 (Nat.le_of_ble_eq_true rfl)) rfl rfl ?_
  refine pm_R_op pm_M0 (pc' := 1216) (st' := [.int 1, .int 0, .ref 0, .ref 16]) (pm_q0_14 (Nat.le_of_ble_eq_true rfl)) rfl rfl ?_
  refine pm_R_op pm_M0 (pc' := 1217) (st' := [.int 1, .ref 0, .ref 16]) (pm_q0_14 (Nat.le_of_ble_eq_true rfl)) rfl rfl ?_
  refine pm_R_iald pm_M0 (pc' := 1218) (v := x1) (pm_q0_14 (Nat.le_of_ble_eq_true rfl)) (hh 0 (Nat.le_of_ble_eq_true rfl)) (Nat.le_of_ble_eq_true rfl) rfl hx1 rfl ?_
  refine pm_R_lo pm_M0 (pc' := 1219) (pm_q0_14 (Nat.le_of_ble_eq_true rfl)) rfl rfl ?_
  refine pm_R_lo pm_M0 (pc' := 1220) (pm_q0_14 (Nat.le_of_ble_eq_true rfl)) rfl rfl ?_
  refine pm_R_op pm_M0 (pc' := 1221) (st' := [.int 2, .int 0, .ref 0, .int x1, .ref 16]) (pm_q0_14 (Nat.le_of_ble_eq_true rfl)) rfl rfl ?_
  refine pm_R_op pm_M0 (pc' := 1222) (st' := [.int 2, .ref 0, .int x1, .ref 16]) (pm_q0_14 (Nat.le_of_ble_eq_true rfl)) rfl rfl ?_
  refine pm_R_iald pm_M0 (pc' := 1223) (v := x2) (pm_q0_14 (Nat.le_of_ble_eq_true rfl)) (hh 0 (Nat.le_of_ble_eq_true rfl)) (Nat.le_of_ble_eq_true rfl) rfl hx2 rfl ?_
  refine pm_R_lo pm_M0 (pc' := 1224) (pm_q0_14 (Nat.le_of_ble_eq_true rfl)) rfl rfl ?_
  refine pm_R_lo pm_M0 (pc' := 1225) (pm_q0_14 (Nat.le_of_ble_eq_true rfl)) rfl rfl ?_
  refine pm_R_op pm_M0 (pc' := 1226) (st' := [.int 3, .int 0, .ref 0, .int x2, .int x1, .ref 16]) (pm_q0_14 (Nat.le_of_ble_eq_true rfl)) rfl rfl ?_
  refine pm_R_op pm_M0 (pc' := 1227) (st' := [.int 3, .ref 0, .int x2, .int x1, .ref 16]) (pm_q0_14 (Nat.le_of_ble_eq_true rfl)) rfl rfl ?_
  refine pm_R_iald pm_M0 (pc' := 1228) (v := x3) (pm_q0_14 (Nat.le_of_ble_eq_true rfl)) (hh 0 (Nat.le_of_ble_eq_true rfl)) (Nat.le_of_ble_eq_true rfl) rfl hx3 rfl ?_
  refine pm_R_lo pm_M0 (pc' := 1229) (pm_q0_14 (Nat.le_of_ble_eq_true rfl)) rfl rfl ?_
  refine pm_R_lo pm_M0 (pc' := 1230) (pm_q0_14 (Nat.le_of_ble_eq_true rfl)) rfl rfl ?_
  refine pm_R_op pm_M0 (pc' := 1231) (st' := [.int 4, .int 0, .ref 0, .int x3, .int x2, .int x1, .ref 16]) (pm_q0_14 (Nat.le_of_ble_eq_true rfl)) rfl rfl ?_
  refine pm_R_op pm_M0 (pc' := 1232) (st' := [.int 4, .ref 0, .int x3, .int x2, .int x1, .ref 16]) (pm_q0_14 (Nat.le_of_ble_eq_true rfl)) rfl rfl ?_
  refine pm_R_iald pm_M0 (pc' := 1233) (v := x4) (pm_q0_14 (Nat.le_of_ble_eq_true rfl)) (hh 0 (Nat.le_of_ble_eq_true rfl)) (Nat.le_of_ble_eq_true rfl) rfl hx4 rfl ?_
  refine pm_R_cv pm_M0 (pc' := 1236) (a := 16) (ra := [.int x4, .int x3, .int x2, .int x1]) (rest := []) (ls' := [.ref 16, .int x1, .int x2, .int x3, .int x4, pm_no, pm_no]) (pm_q0_14 (Nat.le_of_ble_eq_true rfl)) rfl (Or.inl rfl) pm_M144 (hh 16 (Nat.le_of_ble_eq_true rfl)) rfl (Nat.le_of_ble_eq_true rfl) (Nat.le_of_ble_eq_true rfl) rfl rfl (Nat.le_of_ble_eq_true rfl) rfl rfl ?_
  refine pm_R_lo pm_M144 (pc' := 1) rfl rfl rfl ?_
  refine pm_R_lo pm_M144 (pc' := 2) rfl rfl rfl ?_
  refine pm_R_cv pm_M144 (pc' := 5) (a := 16) (ra := [.int x1]) (rest := []) (ls' := [.ref 16, .int x1]) rfl rfl (Or.inl rfl) pm_M139 (hh 16 (Nat.le_of_ble_eq_true rfl)) rfl (Nat.le_of_ble_eq_true rfl) (Nat.le_of_ble_eq_true rfl) rfl rfl (Nat.le_of_ble_eq_true rfl) rfl rfl ?_
  refine pm_R_lo pm_M139 (pc' := 1) rfl rfl rfl ?_
  refine pm_R_ifc pm_M139 (t := 17) (pc' := 4) rfl rfl rfl (fun c_1 => ?_) (fun c_1 => ?_)
  · refine pm_R_op pm_M139 (pc' := 18) (st' := [.null]) rfl rfl rfl ?_
    refine pm_R_br pm_M139 (pc' := 30) rfl rfl ?_
    refine pm_R_ret pm_M139 (r := some (.null)) rfl rfl ?_
    show pm_R _ 144 5 [.ref 16, .int x1, .int x2, .int x3, .int x4, pm_no, pm_no] [.null] _ _
    refine pm_R_lo pm_M144 (pc' := 7) (ls' := [.ref 16, .int x1, .int x2, .int x3, .int x4, .null, pm_no]) (st' := []) rfl rfl rfl ?_
    refine pm_R_lo pm_M144 (pc' := 9) rfl rfl rfl ?_
    refine pm_R_br pm_M144 (pc' := 22) rfl rfl ?_
    refine pm_R_op pm_M144 (pc' := 24) (st' := [.int (-2)]) rfl rfl rfl ?_
    refine pm_R_ret pm_M144 (r := some (.int (-2))) rfl rfl ?_
    show pm_R _ 0 1236 [.ref 0, .ref 16, .ref 41, .int 0] [.int (-2)] _ _
    refine pm_R_lo pm_M0 (pc' := 1237) (pm_q0_14 (Nat.le_of_ble_eq_true rfl)) rfl rfl ?_
    refine pm_R_lo pm_M0 (pc' := 1238) (pm_q0_14 (Nat.le_of_ble_eq_true rfl)) rfl rfl ?_
    refine pm_R_lo pm_M0 (pc' := 1239) (pm_q0_14 (Nat.le_of_ble_eq_true rfl)) rfl rfl ?_
    refine pm_R_op pm_M0 (pc' := 1240) (st' := [.int 1, .int 0, .ref 0, .ref 41, .int (-2)]) (pm_q0_14 (Nat.le_of_ble_eq_true rfl)) rfl rfl ?_
    refine pm_R_op pm_M0 (pc' := 1241) (st' := [.int 1, .ref 0, .ref 41, .int (-2)]) (pm_q0_14 (Nat.le_of_ble_eq_true rfl)) rfl rfl ?_
    refine pm_R_iald pm_M0 (pc' := 1242) (v := x1) (pm_q0_14 (Nat.le_of_ble_eq_true rfl)) (hh 0 (Nat.le_of_ble_eq_true rfl)) (Nat.le_of_ble_eq_true rfl) rfl hx1 rfl ?_
    refine pm_R_lo pm_M0 (pc' := 1243) (pm_q0_14 (Nat.le_of_ble_eq_true rfl)) rfl rfl ?_
    refine pm_R_lo pm_M0 (pc' := 1244) (pm_q0_14 (Nat.le_of_ble_eq_true rfl)) rfl rfl ?_
    refine pm_R_op pm_M0 (pc' := 1245) (st' := [.int 2, .int 0, .ref 0, .int x1, .ref 41, .int (-2)]) (pm_q0_15 (Nat.le_of_ble_eq_true rfl)) rfl rfl ?_
    refine pm_R_op pm_M0 (pc' := 1246) (st' := [.int 2, .ref 0, .int x1, .ref 41, .int (-2)]) (pm_q0_15 (Nat.le_of_ble_eq_true rfl)) rfl rfl ?_
    refine pm_R_iald pm_M0 (pc' := 1247) (v := x2) (pm_q0_15 (Nat.le_of_ble_eq_true rfl)) (hh 0 (Nat.le_of_ble_eq_true rfl)) (Nat.le_of_ble_eq_true rfl) rfl hx2 rfl ?_
    refine pm_R_lo pm_M0 (pc' := 1248) (pm_q0_15 (Nat.le_of_ble_eq_true rfl)) rfl rfl ?_
    refine pm_R_lo pm_M0 (pc' := 1249) (pm_q0_15 (Nat.le_of_ble_eq_true rfl)) rfl rfl ?_
    refine pm_R_op pm_M0 (pc' := 1250) (st' := [.int 3, .int 0, .ref 0, .int x2, .int x1, .ref 41, .int (-2)]) (pm_q0_15 (Nat.le_of_ble_eq_true rfl)) rfl rfl ?_
    refine pm_R_op pm_M0 (pc' := 1251) (st' := [.int 3, .ref 0, .int x2, .int x1, .ref 41, .int (-2)]) (pm_q0_15 (Nat.le_of_ble_eq_true rfl)) rfl rfl ?_
    refine pm_R_iald pm_M0 (pc' := 1252) (v := x3) (pm_q0_15 (Nat.le_of_ble_eq_true rfl)) (hh 0 (Nat.le_of_ble_eq_true rfl)) (Nat.le_of_ble_eq_true rfl) rfl hx3 rfl ?_
    refine pm_R_lo pm_M0 (pc' := 1253) (pm_q0_15 (Nat.le_of_ble_eq_true rfl)) rfl rfl ?_
    refine pm_R_lo pm_M0 (pc' := 1254) (pm_q0_15 (Nat.le_of_ble_eq_true rfl)) rfl rfl ?_
    refine pm_R_op pm_M0 (pc' := 1255) (st' := [.int 4, .int 0, .ref 0, .int x3, .int x2, .int x1, .ref 41, .int (-2)]) (pm_q0_15 (Nat.le_of_ble_eq_true rfl)) rfl rfl ?_
    refine pm_R_op pm_M0 (pc' := 1256) (st' := [.int 4, .ref 0, .int x3, .int x2, .int x1, .ref 41, .int (-2)]) (pm_q0_15 (Nat.le_of_ble_eq_true rfl)) rfl rfl ?_
    refine pm_R_iald pm_M0 (pc' := 1257) (v := x4) (pm_q0_15 (Nat.le_of_ble_eq_true rfl)) (hh 0 (Nat.le_of_ble_eq_true rfl)) (Nat.le_of_ble_eq_true rfl) rfl hx4 rfl ?_
    refine pm_R_cv pm_M0 (pc' := 1260) (a := 41) (ra := [.int x4, .int x3, .int x2, .int x1]) (rest := [.int (-2)]) (ls' := [.ref 41, .int x1, .int x2, .int x3, .int x4]) (pm_q0_15 (Nat.le_of_ble_eq_true rfl)) rfl (Or.inl rfl) pm_M260 (hh 41 (Nat.le_of_ble_eq_true rfl)) rfl (Nat.le_of_ble_eq_true rfl) (Nat.le_of_ble_eq_true rfl) rfl rfl (Nat.le_of_ble_eq_true rfl) rfl rfl ?_
    refine pm_R_lo pm_M260 (pc' := 1) rfl rfl rfl ?_
    refine pm_R_op pm_M260 (pc' := 2) (st' := [.int 0, .ref 41]) rfl rfl rfl ?_
    refine pm_R_put pm_M260 (pc' := 5) (fs' := [.int 0, .ref 42, .ref 43, .ref 44, .ref 45, .ref 46, .ref 47, .ref 48, .ref 49, .ref 50, .int 0, .int 0, .int 0, .int 0, .int 0, .long 0, .int 0, .int 0, .int 0, .ref 51, .ref 52, .int 0, .int 0, .int 0, .int 0, .ref 53, .int 0, .int 0, .ref 54, .ref 55, .ref 56, .int 0, .ref 57, .ref 58, .ref 59, .ref 60, .ref 61, .ref 62, .ref 63, .ref 64, .ref 65, .ref 66, .int 0, .int 0, .int 0, .ref 67, .ref 68, .int 0, .ref 69, .int 0, .int 0, .ref 70, .ref 71]) rfl rfl rfl (hh 41 (Nat.le_of_ble_eq_true rfl)) (Nat.le_of_ble_eq_true rfl) (Nat.le_of_ble_eq_true rfl) (Nat.le_of_ble_eq_true rfl) rfl (Or.inl rfl) rfl rfl ?_
    refine pm_R_lo pm_M260 (pc' := 6) rfl rfl rfl ?_
    refine pm_R_lo pm_M260 (pc' := 7) rfl rfl rfl ?_
    refine pm_R_lo pm_M260 (pc' := 8) rfl rfl rfl ?_
    refine pm_R_lo pm_M260 (pc' := 9) rfl rfl rfl ?_
    refine pm_R_cv pm_M260 (pc' := 12) (a := 41) (ra := [.int x3, .int x2, .int x1]) (rest := []) (ls' := [.ref 41, .int x1, .int x2, .int x3, pm_no]) rfl rfl (Or.inl rfl) pm_M261 rfl rfl (Nat.le_of_ble_eq_true rfl) (Nat.le_of_ble_eq_true rfl) rfl rfl (Nat.le_of_ble_eq_true rfl) rfl rfl ?_
    refine pm_R_lo pm_M261 (pc' := 1) rfl rfl rfl ?_
    refine pm_R_lo pm_M261 (pc' := 2) rfl rfl rfl ?_
    refine pm_R_cv pm_M261 (pc' := 5) (a := 41) (ra := [.int x1]) (rest := []) (ls' := [.ref 41, .int x1, pm_no, pm_no, pm_no, pm_no]) rfl rfl (Or.inl rfl) pm_M254 rfl rfl (Nat.le_of_ble_eq_true rfl) (Nat.le_of_ble_eq_true rfl) rfl rfl (Nat.le_of_ble_eq_true rfl) rfl rfl ?_
    refine pm_R_lo pm_M254 (pc' := 1) rfl rfl rfl ?_
    refine pm_R_op pm_M254 (pc' := 2) (st' := [.int 2, .ref 41]) rfl rfl rfl ?_
    refine pm_R_lo pm_M254 (pc' := 3) rfl rfl rfl ?_
    refine pm_R_cv pm_M254 (pc' := 6) (a := 41) (ra := [.int x1, .int 2]) (rest := []) (ls' := [.ref 41, .int 2, .int x1]) rfl rfl (Or.inl rfl) pm_M177 rfl rfl (Nat.le_of_ble_eq_true rfl) (Nat.le_of_ble_eq_true rfl) rfl rfl (Nat.le_of_ble_eq_true rfl) rfl rfl ?_
    refine pm_R_lo pm_M177 (pc' := 1) rfl rfl rfl ?_
    refine pm_R_op pm_M177 (pc' := 2) (st' := [.int 0, .int x1]) rfl rfl rfl ?_
    refine pm_R_lo pm_M177 (pc' := 3) rfl rfl rfl ?_
    refine pm_R_get pm_M177 (pc' := 6) (v := .ref 46) rfl rfl rfl (Nat.le_of_ble_eq_true rfl) (Nat.le_of_ble_eq_true rfl) rfl rfl ?_
    refine pm_R_lo pm_M177 (pc' := 7) rfl rfl rfl ?_
    refine pm_R_iald pm_M177 (pc' := 8) (v := 0) rfl (hh 46 (Nat.le_of_ble_eq_true rfl)) (Nat.le_of_ble_eq_true rfl) rfl rfl rfl ?_
    refine pm_R_op pm_M177 (pc' := 9) (st' := [.int 1, .int 0, .int 0, .int x1]) rfl rfl rfl ?_
    refine pm_R_op pm_M177 (pc' := 10) (st' := [.int (-1), .int 0, .int x1]) rfl rfl rfl ?_
    refine pm_R_cs pm_M177 (pc' := 13) (ra := [.int (-1), .int 0, .int x1]) (rest := []) (ls' := [.int x1, .int 0, .int (-1)]) rfl rfl (Or.inl rfl) pm_M174 rfl rfl (Nat.le_of_ble_eq_true rfl) rfl rfl ?_
    refine pm_R_lo pm_M174 (pc' := 1) rfl rfl rfl ?_
    refine pm_R_lo pm_M174 (pc' := 2) rfl rfl rfl ?_
    refine pm_R_icmp pm_M174 (t := 14) (pc' := 5) rfl rfl rfl (fun c_2 => ?_) (fun c_2 => by exact absurd c_1 c_2)
    refine pm_R_op pm_M174 (pc' := 15) (st' := [.int 0]) rfl rfl rfl ?_
    refine pm_R_ret pm_M174 (r := some (.int 0)) rfl rfl ?_
    show pm_R _ 177 13 [.ref 41, .int 2, .int x1] [.int 0] _ _
    refine pm_R_ret pm_M177 (r := some (.int 0)) rfl rfl ?_
    show pm_R _ 254 6 [.ref 41, .int x1, pm_no, pm_no, pm_no, pm_no] [.int 0] _ _
    refine pm_R_br pm_M254 (pc' := 9) (st' := []) rfl rfl ?_
    refine pm_R_op pm_M254 (pc' := 10) (st' := [.int 0]) rfl rfl rfl ?_
    refine pm_R_ret pm_M254 (r := some (.int 0)) rfl rfl ?_
    show pm_R _ 261 5 [.ref 41, .int x1, .int x2, .int x3, pm_no] [.int 0] _ _
    refine pm_R_br pm_M261 (pc' := 34) (st' := []) rfl rfl ?_
    refine pm_R_op pm_M261 (pc' := 35) (st' := [.int 0]) rfl rfl rfl ?_
    refine pm_R_ret pm_M261 (r := some (.int 0)) rfl rfl ?_
    show pm_R _ 260 12 [.ref 41, .int x1, .int x2, .int x3, .int x4] [.int 0] _ _
    refine pm_R_br pm_M260 (pc' := 15) (st' := []) rfl rfl ?_
    refine pm_R_op pm_M260 (pc' := 17) (st' := [.int (-2)]) rfl rfl rfl ?_
    refine pm_R_ret pm_M260 (r := some (.int (-2))) rfl rfl ?_
    show pm_R _ 0 1260 [.ref 0, .ref 16, .ref 41, .int 0] [.int (-2), .int (-2)] _ _
    refine pm_R_br pm_M0 (pc' := 2121) (st' := []) (pm_q0_15 (Nat.le_of_ble_eq_true rfl)) rfl ?_
    exact p1_tail (hh 0 (Nat.le_of_ble_eq_true rfl)) (Nat.le_of_ble_eq_true rfl) (Nat.le_of_ble_eq_true rfl) (Nat.le_of_ble_eq_true rfl)
  · refine pm_R_lo pm_M139 (pc' := 5) rfl rfl rfl ?_
    refine pm_R_lo pm_M139 (pc' := 6) rfl rfl rfl ?_
    refine pm_R_get pm_M139 (pc' := 9) (v := .ref 17) rfl rfl (hh 16 (Nat.le_of_ble_eq_true rfl)) (Nat.le_of_ble_eq_true rfl) (Nat.le_of_ble_eq_true rfl) rfl rfl ?_
    refine pm_R_get pm_M139 (pc' := 12) (v := .ref 23) rfl rfl (hh 17 (Nat.le_of_ble_eq_true rfl)) (Nat.le_of_ble_eq_true rfl) (Nat.le_of_ble_eq_true rfl) rfl rfl ?_
    refine pm_R_op pm_M139 (pc' := 13) (st' := [.int 2, .ref 23, .int x1]) rfl rfl rfl ?_
    refine pm_R_iald pm_M139 (pc' := 14) (v := 0) rfl (hh 23 (Nat.le_of_ble_eq_true rfl)) (Nat.le_of_ble_eq_true rfl) rfl rfl rfl ?_
    refine pm_R_icmp pm_M139 (t := 21) (pc' := 17) rfl rfl rfl (fun c_3 => by exact absurd c_3 c_1) (fun c_3 => ?_)
    refine pm_R_op pm_M139 (pc' := 18) (st' := [.null]) rfl rfl rfl ?_
    refine pm_R_br pm_M139 (pc' := 30) rfl rfl ?_
    refine pm_R_ret pm_M139 (r := some (.null)) rfl rfl ?_
    show pm_R _ 144 5 [.ref 16, .int x1, .int x2, .int x3, .int x4, pm_no, pm_no] [.null] _ _
    refine pm_R_lo pm_M144 (pc' := 7) (ls' := [.ref 16, .int x1, .int x2, .int x3, .int x4, .null, pm_no]) (st' := []) rfl rfl rfl ?_
    refine pm_R_lo pm_M144 (pc' := 9) rfl rfl rfl ?_
    refine pm_R_br pm_M144 (pc' := 22) rfl rfl ?_
    refine pm_R_op pm_M144 (pc' := 24) (st' := [.int (-2)]) rfl rfl rfl ?_
    refine pm_R_ret pm_M144 (r := some (.int (-2))) rfl rfl ?_
    show pm_R _ 0 1236 [.ref 0, .ref 16, .ref 41, .int 0] [.int (-2)] _ _
    refine pm_R_lo pm_M0 (pc' := 1237) (pm_q0_14 (Nat.le_of_ble_eq_true rfl)) rfl rfl ?_
    refine pm_R_lo pm_M0 (pc' := 1238) (pm_q0_14 (Nat.le_of_ble_eq_true rfl)) rfl rfl ?_
    refine pm_R_lo pm_M0 (pc' := 1239) (pm_q0_14 (Nat.le_of_ble_eq_true rfl)) rfl rfl ?_
    refine pm_R_op pm_M0 (pc' := 1240) (st' := [.int 1, .int 0, .ref 0, .ref 41, .int (-2)]) (pm_q0_14 (Nat.le_of_ble_eq_true rfl)) rfl rfl ?_
    refine pm_R_op pm_M0 (pc' := 1241) (st' := [.int 1, .ref 0, .ref 41, .int (-2)]) (pm_q0_14 (Nat.le_of_ble_eq_true rfl)) rfl rfl ?_
    refine pm_R_iald pm_M0 (pc' := 1242) (v := x1) (pm_q0_14 (Nat.le_of_ble_eq_true rfl)) (hh 0 (Nat.le_of_ble_eq_true rfl)) (Nat.le_of_ble_eq_true rfl) rfl hx1 rfl ?_
    refine pm_R_lo pm_M0 (pc' := 1243) (pm_q0_14 (Nat.le_of_ble_eq_true rfl)) rfl rfl ?_
    refine pm_R_lo pm_M0 (pc' := 1244) (pm_q0_14 (Nat.le_of_ble_eq_true rfl)) rfl rfl ?_
    refine pm_R_op pm_M0 (pc' := 1245) (st' := [.int 2, .int 0, .ref 0, .int x1, .ref 41, .int (-2)]) (pm_q0_15 (Nat.le_of_ble_eq_true rfl)) rfl rfl ?_
    refine pm_R_op pm_M0 (pc' := 1246) (st' := [.int 2, .ref 0, .int x1, .ref 41, .int (-2)]) (pm_q0_15 (Nat.le_of_ble_eq_true rfl)) rfl rfl ?_
    refine pm_R_iald pm_M0 (pc' := 1247) (v := x2) (pm_q0_15 (Nat.le_of_ble_eq_true rfl)) (hh 0 (Nat.le_of_ble_eq_true rfl)) (Nat.le_of_ble_eq_true rfl) rfl hx2 rfl ?_
    refine pm_R_lo pm_M0 (pc' := 1248) (pm_q0_15 (Nat.le_of_ble_eq_true rfl)) rfl rfl ?_
    refine pm_R_lo pm_M0 (pc' := 1249) (pm_q0_15 (Nat.le_of_ble_eq_true rfl)) rfl rfl ?_
    refine pm_R_op pm_M0 (pc' := 1250) (st' := [.int 3, .int 0, .ref 0, .int x2, .int x1, .ref 41, .int (-2)]) (pm_q0_15 (Nat.le_of_ble_eq_true rfl)) rfl rfl ?_
    refine pm_R_op pm_M0 (pc' := 1251) (st' := [.int 3, .ref 0, .int x2, .int x1, .ref 41, .int (-2)]) (pm_q0_15 (Nat.le_of_ble_eq_true rfl)) rfl rfl ?_
    refine pm_R_iald pm_M0 (pc' := 1252) (v := x3) (pm_q0_15 (Nat.le_of_ble_eq_true rfl)) (hh 0 (Nat.le_of_ble_eq_true rfl)) (Nat.le_of_ble_eq_true rfl) rfl hx3 rfl ?_
    refine pm_R_lo pm_M0 (pc' := 1253) (pm_q0_15 (Nat.le_of_ble_eq_true rfl)) rfl rfl ?_
    refine pm_R_lo pm_M0 (pc' := 1254) (pm_q0_15 (Nat.le_of_ble_eq_true rfl)) rfl rfl ?_
    refine pm_R_op pm_M0 (pc' := 1255) (st' := [.int 4, .int 0, .ref 0, .int x3, .int x2, .int x1, .ref 41, .int (-2)]) (pm_q0_15 (Nat.le_of_ble_eq_true rfl)) rfl rfl ?_
    refine pm_R_op pm_M0 (pc' := 1256) (st' := [.int 4, .ref 0, .int x3, .int x2, .int x1, .ref 41, .int (-2)]) (pm_q0_15 (Nat.le_of_ble_eq_true rfl)) rfl rfl ?_
    refine pm_R_iald pm_M0 (pc' := 1257) (v := x4) (pm_q0_15 (Nat.le_of_ble_eq_true rfl)) (hh 0 (Nat.le_of_ble_eq_true rfl)) (Nat.le_of_ble_eq_true rfl) rfl hx4 rfl ?_
    refine pm_R_cv pm_M0 (pc' := 1260) (a := 41) (ra := [.int x4, .int x3, .int x2, .int x1]) (rest := [.int (-2)]) (ls' := [.ref 41, .int x1, .int x2, .int x3, .int x4]) (pm_q0_15 (Nat.le_of_ble_eq_true rfl)) rfl (Or.inl rfl) pm_M260 (hh 41 (Nat.le_of_ble_eq_true rfl)) rfl (Nat.le_of_ble_eq_true rfl) (Nat.le_of_ble_eq_true rfl) rfl rfl (Nat.le_of_ble_eq_true rfl) rfl rfl ?_
    refine pm_R_lo pm_M260 (pc' := 1) rfl rfl rfl ?_
    refine pm_R_op pm_M260 (pc' := 2) (st' := [.int 0, .ref 41]) rfl rfl rfl ?_
    refine pm_R_put pm_M260 (pc' := 5) (fs' := [.int 0, .ref 42, .ref 43, .ref 44, .ref 45, .ref 46, .ref 47, .ref 48, .ref 49, .ref 50, .int 0, .int 0, .int 0, .int 0, .int 0, .long 0, .int 0, .int 0, .int 0, .ref 51, .ref 52, .int 0, .int 0, .int 0, .int 0, .ref 53, .int 0, .int 0, .ref 54, .ref 55, .ref 56, .int 0, .ref 57, .ref 58, .ref 59, .ref 60, .ref 61, .ref 62, .ref 63, .ref 64, .ref 65, .ref 66, .int 0, .int 0, .int 0, .ref 67, .ref 68, .int 0, .ref 69, .int 0, .int 0, .ref 70, .ref 71]) rfl rfl rfl (hh 41 (Nat.le_of_ble_eq_true rfl)) (Nat.le_of_ble_eq_true rfl) (Nat.le_of_ble_eq_true rfl) (Nat.le_of_ble_eq_true rfl) rfl (Or.inl rfl) rfl rfl ?_
    refine pm_R_lo pm_M260 (pc' := 6) rfl rfl rfl ?_
    refine pm_R_lo pm_M260 (pc' := 7) rfl rfl rfl ?_
    refine pm_R_lo pm_M260 (pc' := 8) rfl rfl rfl ?_
    refine pm_R_lo pm_M260 (pc' := 9) rfl rfl rfl ?_
    refine pm_R_cv pm_M260 (pc' := 12) (a := 41) (ra := [.int x3, .int x2, .int x1]) (rest := []) (ls' := [.ref 41, .int x1, .int x2, .int x3, pm_no]) rfl rfl (Or.inl rfl) pm_M261 rfl rfl (Nat.le_of_ble_eq_true rfl) (Nat.le_of_ble_eq_true rfl) rfl rfl (Nat.le_of_ble_eq_true rfl) rfl rfl ?_
    refine pm_R_lo pm_M261 (pc' := 1) rfl rfl rfl ?_
    refine pm_R_lo pm_M261 (pc' := 2) rfl rfl rfl ?_
    refine pm_R_cv pm_M261 (pc' := 5) (a := 41) (ra := [.int x1]) (rest := []) (ls' := [.ref 41, .int x1, pm_no, pm_no, pm_no, pm_no]) rfl rfl (Or.inl rfl) pm_M254 rfl rfl (Nat.le_of_ble_eq_true rfl) (Nat.le_of_ble_eq_true rfl) rfl rfl (Nat.le_of_ble_eq_true rfl) rfl rfl ?_
    refine pm_R_lo pm_M254 (pc' := 1) rfl rfl rfl ?_
    refine pm_R_op pm_M254 (pc' := 2) (st' := [.int 2, .ref 41]) rfl rfl rfl ?_
    refine pm_R_lo pm_M254 (pc' := 3) rfl rfl rfl ?_
    refine pm_R_cv pm_M254 (pc' := 6) (a := 41) (ra := [.int x1, .int 2]) (rest := []) (ls' := [.ref 41, .int 2, .int x1]) rfl rfl (Or.inl rfl) pm_M177 rfl rfl (Nat.le_of_ble_eq_true rfl) (Nat.le_of_ble_eq_true rfl) rfl rfl (Nat.le_of_ble_eq_true rfl) rfl rfl ?_
    refine pm_R_lo pm_M177 (pc' := 1) rfl rfl rfl ?_
    refine pm_R_op pm_M177 (pc' := 2) (st' := [.int 0, .int x1]) rfl rfl rfl ?_
    refine pm_R_lo pm_M177 (pc' := 3) rfl rfl rfl ?_
    refine pm_R_get pm_M177 (pc' := 6) (v := .ref 46) rfl rfl rfl (Nat.le_of_ble_eq_true rfl) (Nat.le_of_ble_eq_true rfl) rfl rfl ?_
    refine pm_R_lo pm_M177 (pc' := 7) rfl rfl rfl ?_
    refine pm_R_iald pm_M177 (pc' := 8) (v := 0) rfl (hh 46 (Nat.le_of_ble_eq_true rfl)) (Nat.le_of_ble_eq_true rfl) rfl rfl rfl ?_
    refine pm_R_op pm_M177 (pc' := 9) (st' := [.int 1, .int 0, .int 0, .int x1]) rfl rfl rfl ?_
    refine pm_R_op pm_M177 (pc' := 10) (st' := [.int (-1), .int 0, .int x1]) rfl rfl rfl ?_
    refine pm_R_cs pm_M177 (pc' := 13) (ra := [.int (-1), .int 0, .int x1]) (rest := []) (ls' := [.int x1, .int 0, .int (-1)]) rfl rfl (Or.inl rfl) pm_M174 rfl rfl (Nat.le_of_ble_eq_true rfl) rfl rfl ?_
    refine pm_R_lo pm_M174 (pc' := 1) rfl rfl rfl ?_
    refine pm_R_lo pm_M174 (pc' := 2) rfl rfl rfl ?_
    refine pm_R_icmp pm_M174 (t := 14) (pc' := 5) rfl rfl rfl (fun c_4 => by exact absurd c_4 c_1) (fun c_4 => ?_)
    refine pm_R_lo pm_M174 (pc' := 6) rfl rfl rfl ?_
    refine pm_R_lo pm_M174 (pc' := 7) rfl rfl rfl ?_
    refine pm_R_icmp pm_M174 (t := 14) (pc' := 10) rfl rfl rfl (fun c_5 => ?_) (fun c_5 => by have z0 : ((-1) : Int32).toInt = -1 := (by decide); have z1 : ((0) : Int32).toInt = 0 := (by decide); have q0 := (Int32.le_iff_toInt_le.mp (Int32.not_lt.mp c_1)); have q1 := (Int32.le_iff_toInt_le.mp (Int32.not_lt.mp c_5)); exfalso; omega)
    refine pm_R_op pm_M174 (pc' := 15) (st' := [.int 0]) rfl rfl rfl ?_
    refine pm_R_ret pm_M174 (r := some (.int 0)) rfl rfl ?_
    show pm_R _ 177 13 [.ref 41, .int 2, .int x1] [.int 0] _ _
    refine pm_R_ret pm_M177 (r := some (.int 0)) rfl rfl ?_
    show pm_R _ 254 6 [.ref 41, .int x1, pm_no, pm_no, pm_no, pm_no] [.int 0] _ _
    refine pm_R_br pm_M254 (pc' := 9) (st' := []) rfl rfl ?_
    refine pm_R_op pm_M254 (pc' := 10) (st' := [.int 0]) rfl rfl rfl ?_
    refine pm_R_ret pm_M254 (r := some (.int 0)) rfl rfl ?_
    show pm_R _ 261 5 [.ref 41, .int x1, .int x2, .int x3, pm_no] [.int 0] _ _
    refine pm_R_br pm_M261 (pc' := 34) (st' := []) rfl rfl ?_
    refine pm_R_op pm_M261 (pc' := 35) (st' := [.int 0]) rfl rfl rfl ?_
    refine pm_R_ret pm_M261 (r := some (.int 0)) rfl rfl ?_
    show pm_R _ 260 12 [.ref 41, .int x1, .int x2, .int x3, .int x4] [.int 0] _ _
    refine pm_R_br pm_M260 (pc' := 15) (st' := []) rfl rfl ?_
    refine pm_R_op pm_M260 (pc' := 17) (st' := [.int (-2)]) rfl rfl rfl ?_
    refine pm_R_ret pm_M260 (r := some (.int (-2))) rfl rfl ?_
    show pm_R _ 0 1260 [.ref 0, .ref 16, .ref 41, .int 0] [.int (-2), .int (-2)] _ _
    refine pm_R_br pm_M0 (pc' := 2121) (st' := []) (pm_q0_15 (Nat.le_of_ble_eq_true rfl)) rfl ?_
    exact p1_tail (hh 0 (Nat.le_of_ble_eq_true rfl)) (Nat.le_of_ble_eq_true rfl) (Nat.le_of_ble_eq_true rfl) (Nat.le_of_ble_eq_true rfl)
set_option maxRecDepth 100000 in
set_option maxHeartbeats 40000000 in
theorem p1_c24 (xs : Nat → Int32) (f : Nat → pm_E) (hh : ∀ i, i < 72 → f i = pm_fF 7 xs i) (x0 x1 x2 x3 x4 x5 x6 : Int32) (hx0 : xs 0 = x0) (hx1 : xs 1 = x1) (hx2 : xs 2 = x2) (hx3 : xs 3 = x3) (hx4 : xs 4 = x4) (hx5 : xs 5 = x5) (hx6 : xs 6 = x6) : pm_R 100 0 1265 [.ref 0, .ref 16, .ref 41, .int 0] [] (72, 52657, f) p1_Q := by
  refine pm_R_lo pm_M0 (pc' := 1266) (pm_q0_15 (Nat.le_of_ble_eq_true rfl)) rfl rfl ?_
  refine pm_R_lo pm_M0 (pc' := 1267) (pm_q0_15 (Nat.le_of_ble_eq_true rfl)) rfl rfl ?_
  refine pm_R_lo pm_M0 (pc' := 1268) (pm_q0_15 (Nat.le_of_ble_eq_true rfl)) rfl rfl ?_
  refine pm_R_op pm_M0 (pc' := 1269) (st' := [.int 1, .int 0, .ref 0, .ref 16]) (pm_q0_15 (Nat.le_of_ble_eq_true rfl)) rfl rfl ?_
  refine pm_R_op pm_M0 (pc' := 1270) (st' := [.int 1, .ref 0, .ref 16]) (pm_q0_15 (Nat.le_of_ble_eq_true rfl)) rfl rfl ?_
  refine pm_R_iald pm_M0 (pc' := 1271) (v := x1) (pm_q0_15 (Nat.le_of_ble_eq_true rfl)) (hh 0 (Nat.le_of_ble_eq_true rfl)) (Nat.le_of_ble_eq_true rfl) rfl hx1 rfl ?_
  refine pm_R_lo pm_M0 (pc' := 1272) (pm_q0_15 (Nat.le_of_ble_eq_true rfl)) rfl rfl ?_
  refine pm_R_lo pm_M0 (pc' := 1273) (pm_q0_15 (Nat.le_of_ble_eq_true rfl)) rfl rfl ?_
  refine pm_R_op pm_M0 (pc' := 1274) (st' := [.int 2, .int 0, .ref 0, .int x1, .ref 16]) (pm_q0_15 (Nat.le_of_ble_eq_true rfl)) rfl rfl ?_
  refine pm_R_op pm_M0 (pc' := 1275) (st' := [.int 2, .ref 0, .int x1, .ref 16]) (pm_q0_15 (Nat.le_of_ble_eq_true rfl)) rfl rfl ?_
  refine pm_R_iald pm_M0 (pc' := 1276) (v := x2) (pm_q0_15 (Nat.le_of_ble_eq_true rfl)) (hh 0 (Nat.le_of_ble_eq_true rfl)) (Nat.le_of_ble_eq_true rfl) rfl hx2 rfl ?_
  refine pm_R_lo pm_M0 (pc' := 1277) (pm_q0_15 (Nat.le_of_ble_eq_true rfl)) rfl rfl ?_
  refine pm_R_lo pm_M0 (pc' := 1278) (pm_q0_15 (Nat.le_of_ble_eq_true rfl)) rfl rfl ?_
  refine pm_R_op pm_M0 (pc' := 1279) (st' := [.int 3, .int 0, .ref 0, .int x2, .int x1, .ref 16]) (pm_q0_15 (Nat.le_of_ble_eq_true rfl)) rfl rfl ?_
  refine pm_R_op pm_M0 (pc' := 1280) (st' := [.int 3, .ref 0, .int x2, .int x1, .ref 16]) (pm_q0_15 (Nat.le_of_ble_eq_true rfl)) rfl rfl ?_
  refine pm_R_iald pm_M0 (pc' := 1281) (v := x3) (pm_q0_15 (Nat.le_of_ble_eq_true rfl)) (hh 0 (Nat.le_of_ble_eq_true rfl)) (Nat.le_of_ble_eq_true rfl) rfl hx3 rfl ?_
  refine pm_R_lo pm_M0 (pc' := 1282) (pm_q0_15 (Nat.le_of_ble_eq_true rfl)) rfl rfl ?_
  refine pm_R_lo pm_M0 (pc' := 1283) (pm_q0_15 (Nat.le_of_ble_eq_true rfl)) rfl rfl ?_
  refine pm_R_op pm_M0 (pc' := 1284) (st' := [.int 4, .int 0, .ref 0, .int x3, .int x2, .int x1, .ref 16]) (pm_q0_15 (Nat.le_of_ble_eq_true rfl)) rfl rfl ?_
  refine pm_R_op pm_M0 (pc' := 1285) (st' := [.int 4, .ref 0, .int x3, .int x2, .int x1, .ref 16]) (pm_q0_15 (Nat.le_of_ble_eq_true rfl)) rfl rfl ?_
  refine pm_R_iald pm_M0 (pc' := 1286) (v := x4) (pm_q0_15 (Nat.le_of_ble_eq_true rfl)) (hh 0 (Nat.le_of_ble_eq_true rfl)) (Nat.le_of_ble_eq_true rfl) rfl hx4 rfl ?_
  refine pm_R_lo pm_M0 (pc' := 1287) (pm_q0_15 (Nat.le_of_ble_eq_true rfl)) rfl rfl ?_
  refine pm_R_lo pm_M0 (pc' := 1288) (pm_q0_15 (Nat.le_of_ble_eq_true rfl)) rfl rfl ?_
  refine pm_R_op pm_M0 (pc' := 1289) (st' := [.int 5, .int 0, .ref 0, .int x4, .int x3, .int x2, .int x1, .ref 16]) (pm_q0_15 (Nat.le_of_ble_eq_true rfl)) rfl rfl ?_
  refine pm_R_op pm_M0 (pc' := 1290) (st' := [.int 5, .ref 0, .int x4, .int x3, .int x2, .int x1, .ref 16]) (pm_q0_15 (Nat.le_of_ble_eq_true rfl)) rfl rfl ?_
  refine pm_R_iald pm_M0 (pc' := 1291) (v := x5) (pm_q0_15 (Nat.le_of_ble_eq_true rfl)) (hh 0 (Nat.le_of_ble_eq_true rfl)) (Nat.le_of_ble_eq_true rfl) rfl hx5 rfl ?_
  refine pm_R_cv pm_M0 (pc' := 1294) (a := 16) (ra := [.int x5, .int x4, .int x3, .int x2, .int x1]) (rest := []) (ls' := [.ref 16, .int x1, .int x2, .int x3, .int x4, .int x5, pm_no, pm_no]) (pm_q0_15 (Nat.le_of_ble_eq_true rfl)) rfl (Or.inl rfl) pm_M148 (hh 16 (Nat.le_of_ble_eq_true rfl)) rfl (Nat.le_of_ble_eq_true rfl) (Nat.le_of_ble_eq_true rfl) rfl rfl (Nat.le_of_ble_eq_true rfl) rfl rfl ?_
  refine pm_R_lo pm_M148 (pc' := 1) rfl rfl rfl ?_
  refine pm_R_lo pm_M148 (pc' := 2) rfl rfl rfl ?_
  refine pm_R_cv pm_M148 (pc' := 5) (a := 16) (ra := [.int x1]) (rest := []) (ls' := [.ref 16, .int x1]) rfl rfl (Or.inl rfl) pm_M62 (hh 16 (Nat.le_of_ble_eq_true rfl)) rfl (Nat.le_of_ble_eq_true rfl) (Nat.le_of_ble_eq_true rfl) rfl rfl (Nat.le_of_ble_eq_true rfl) rfl rfl ?_
  refine pm_R_lo pm_M62 (pc' := 1) rfl rfl rfl ?_
  refine pm_R_ifc pm_M62 (t := 17) (pc' := 4) rfl rfl rfl (fun c_1 => ?_) (fun c_1 => ?_)
  · refine pm_R_op pm_M62 (pc' := 18) (st' := [.null]) rfl rfl rfl ?_
    refine pm_R_br pm_M62 (pc' := 30) rfl rfl ?_
    refine pm_R_ret pm_M62 (r := some (.null)) rfl rfl ?_
    show pm_R _ 148 5 [.ref 16, .int x1, .int x2, .int x3, .int x4, .int x5, pm_no, pm_no] [.null] _ _
    refine pm_R_lo pm_M148 (pc' := 7) (ls' := [.ref 16, .int x1, .int x2, .int x3, .int x4, .int x5, .null, pm_no]) (st' := []) rfl rfl rfl ?_
    refine pm_R_lo pm_M148 (pc' := 8) rfl rfl rfl ?_
    refine pm_R_lo pm_M148 (pc' := 9) rfl rfl rfl ?_
    refine pm_R_cv pm_M148 (pc' := 12) (a := 16) (ra := [.int x2]) (rest := []) (ls' := [.ref 16, .int x2]) rfl rfl (Or.inl rfl) pm_M139 (hh 16 (Nat.le_of_ble_eq_true rfl)) rfl (Nat.le_of_ble_eq_true rfl) (Nat.le_of_ble_eq_true rfl) rfl rfl (Nat.le_of_ble_eq_true rfl) rfl rfl ?_
    refine pm_R_lo pm_M139 (pc' := 1) rfl rfl rfl ?_
    refine pm_R_ifc pm_M139 (t := 17) (pc' := 4) rfl rfl rfl (fun c_2 => ?_) (fun c_2 => ?_)
    · refine pm_R_op pm_M139 (pc' := 18) (st' := [.null]) rfl rfl rfl ?_
      refine pm_R_br pm_M139 (pc' := 30) rfl rfl ?_
      refine pm_R_ret pm_M139 (r := some (.null)) rfl rfl ?_
      show pm_R _ 148 12 [.ref 16, .int x1, .int x2, .int x3, .int x4, .int x5, .null, pm_no] [.null] _ _
      refine pm_R_lo pm_M148 (pc' := 14) (ls' := [.ref 16, .int x1, .int x2, .int x3, .int x4, .int x5, .null, .null]) (st' := []) rfl rfl rfl ?_
      refine pm_R_lo pm_M148 (pc' := 16) rfl rfl rfl ?_
      refine pm_R_br pm_M148 (pc' := 35) rfl rfl ?_
      refine pm_R_op pm_M148 (pc' := 37) (st' := [.int (-2)]) rfl rfl rfl ?_
      refine pm_R_ret pm_M148 (r := some (.int (-2))) rfl rfl ?_
      show pm_R _ 0 1294 [.ref 0, .ref 16, .ref 41, .int 0] [.int (-2)] _ _
      refine pm_R_lo pm_M0 (pc' := 1295) (pm_q0_15 (Nat.le_of_ble_eq_true rfl)) rfl rfl ?_
      refine pm_R_lo pm_M0 (pc' := 1296) (pm_q0_15 (Nat.le_of_ble_eq_true rfl)) rfl rfl ?_
      refine pm_R_lo pm_M0 (pc' := 1297) (pm_q0_15 (Nat.le_of_ble_eq_true rfl)) rfl rfl ?_
      refine pm_R_op pm_M0 (pc' := 1298) (st' := [.int 1, .int 0, .ref 0, .ref 41, .int (-2)]) (pm_q0_15 (Nat.le_of_ble_eq_true rfl)) rfl rfl ?_
      refine pm_R_op pm_M0 (pc' := 1299) (st' := [.int 1, .ref 0, .ref 41, .int (-2)]) (pm_q0_15 (Nat.le_of_ble_eq_true rfl)) rfl rfl ?_
      refine pm_R_iald pm_M0 (pc' := 1300) (v := x1) (pm_q0_15 (Nat.le_of_ble_eq_true rfl)) (hh 0 (Nat.le_of_ble_eq_true rfl)) (Nat.le_of_ble_eq_true rfl) rfl hx1 rfl ?_
      refine pm_R_lo pm_M0 (pc' := 1301) (pm_q0_15 (Nat.le_of_ble_eq_true rfl)) rfl rfl ?_
      refine pm_R_lo pm_M0 (pc' := 1302) (pm_q0_15 (Nat.le_of_ble_eq_true rfl)) rfl rfl ?_
      refine pm_R_op pm_M0 (pc' := 1303) (st' := [.int 2, .int 0, .ref 0, .int x1, .ref 41, .int (-2)]) (pm_q0_15 (Nat.le_of_ble_eq_true rfl)) rfl rfl ?_
      refine pm_R_op pm_M0 (pc' := 1304) (st' := [.int 2, .ref 0, .int x1, .ref 41, .int (-2)]) (pm_q0_15 (Nat.le_of_ble_eq_true rfl)) rfl rfl ?_
      refine pm_R_iald pm_M0 (pc' := 1305) (v := x2) (pm_q0_15 (Nat.le_of_ble_eq_true rfl)) (hh 0 (Nat.le_of_ble_eq_true rfl)) (Nat.le_of_ble_eq_true rfl) rfl hx2 rfl ?_
      refine pm_R_lo pm_M0 (pc' := 1306) (pm_q0_15 (Nat.le_of_ble_eq_true rfl)) rfl rfl ?_
      refine pm_R_lo pm_M0 (pc' := 1307) (pm_q0_15 (Nat.le_of_ble_eq_true rfl)) rfl rfl ?_
      refine pm_R_op pm_M0 (pc' := 1308) (st' := [.int 3, .int 0, .ref 0, .int x2, .int x1, .ref 41, .int (-2)]) (pm_q0_15 (Nat.le_of_ble_eq_true rfl)) rfl rfl ?_
      refine pm_R_op pm_M0 (pc' := 1309) (st' := [.int 3, .ref 0, .int x2, .int x1, .ref 41, .int (-2)]) (pm_q0_15 (Nat.le_of_ble_eq_true rfl)) rfl rfl ?_
      refine pm_R_iald pm_M0 (pc' := 1310) (v := x3) (pm_q0_15 (Nat.le_of_ble_eq_true rfl)) (hh 0 (Nat.le_of_ble_eq_true rfl)) (Nat.le_of_ble_eq_true rfl) rfl hx3 rfl ?_
      refine pm_R_lo pm_M0 (pc' := 1311) (pm_q0_16 (Nat.le_of_ble_eq_true rfl)) rfl rfl ?_
      refine pm_R_lo pm_M0 (pc' := 1312) (pm_q0_16 (Nat.le_of_ble_eq_true rfl)) rfl rfl ?_
      refine pm_R_op pm_M0 (pc' := 1313) (st' := [.int 4, .int 0, .ref 0, .int x3, .int x2, .int x1, .ref 41, .int (-2)]) (pm_q0_16 (Nat.le_of_ble_eq_true rfl)) rfl rfl ?_
      refine pm_R_op pm_M0 (pc' := 1314) (st' := [.int 4, .ref 0, .int x3, .int x2, .int x1, .ref 41, .int (-2)]) (pm_q0_16 (Nat.le_of_ble_eq_true rfl)) rfl rfl ?_
      refine pm_R_iald pm_M0 (pc' := 1315) (v := x4) (pm_q0_16 (Nat.le_of_ble_eq_true rfl)) (hh 0 (Nat.le_of_ble_eq_true rfl)) (Nat.le_of_ble_eq_true rfl) rfl hx4 rfl ?_
      refine pm_R_lo pm_M0 (pc' := 1316) (pm_q0_16 (Nat.le_of_ble_eq_true rfl)) rfl rfl ?_
      refine pm_R_lo pm_M0 (pc' := 1317) (pm_q0_16 (Nat.le_of_ble_eq_true rfl)) rfl rfl ?_
      refine pm_R_op pm_M0 (pc' := 1318) (st' := [.int 5, .int 0, .ref 0, .int x4, .int x3, .int x2, .int x1, .ref 41, .int (-2)]) (pm_q0_16 (Nat.le_of_ble_eq_true rfl)) rfl rfl ?_
      refine pm_R_op pm_M0 (pc' := 1319) (st' := [.int 5, .ref 0, .int x4, .int x3, .int x2, .int x1, .ref 41, .int (-2)]) (pm_q0_16 (Nat.le_of_ble_eq_true rfl)) rfl rfl ?_
      refine pm_R_iald pm_M0 (pc' := 1320) (v := x5) (pm_q0_16 (Nat.le_of_ble_eq_true rfl)) (hh 0 (Nat.le_of_ble_eq_true rfl)) (Nat.le_of_ble_eq_true rfl) rfl hx5 rfl ?_
      refine pm_R_cv pm_M0 (pc' := 1323) (a := 41) (ra := [.int x5, .int x4, .int x3, .int x2, .int x1]) (rest := [.int (-2)]) (ls' := [.ref 41, .int x1, .int x2, .int x3, .int x4, .int x5]) (pm_q0_16 (Nat.le_of_ble_eq_true rfl)) rfl (Or.inl rfl) pm_M262 (hh 41 (Nat.le_of_ble_eq_true rfl)) rfl (Nat.le_of_ble_eq_true rfl) (Nat.le_of_ble_eq_true rfl) rfl rfl (Nat.le_of_ble_eq_true rfl) rfl rfl ?_
      refine pm_R_lo pm_M262 (pc' := 1) rfl rfl rfl ?_
      refine pm_R_op pm_M262 (pc' := 2) (st' := [.int 0, .ref 41]) rfl rfl rfl ?_
      refine pm_R_put pm_M262 (pc' := 5) (fs' := [.int 0, .ref 42, .ref 43, .ref 44, .ref 45, .ref 46, .ref 47, .ref 48, .ref 49, .ref 50, .int 0, .int 0, .int 0, .int 0, .int 0, .long 0, .int 0, .int 0, .int 0, .ref 51, .ref 52, .int 0, .int 0, .int 0, .int 0, .ref 53, .int 0, .int 0, .ref 54, .ref 55, .ref 56, .int 0, .ref 57, .ref 58, .ref 59, .ref 60, .ref 61, .ref 62, .ref 63, .ref 64, .ref 65, .ref 66, .int 0, .int 0, .int 0, .ref 67, .ref 68, .int 0, .ref 69, .int 0, .int 0, .ref 70, .ref 71]) rfl rfl rfl (hh 41 (Nat.le_of_ble_eq_true rfl)) (Nat.le_of_ble_eq_true rfl) (Nat.le_of_ble_eq_true rfl) (Nat.le_of_ble_eq_true rfl) rfl (Or.inl rfl) rfl rfl ?_
      refine pm_R_lo pm_M262 (pc' := 6) rfl rfl rfl ?_
      refine pm_R_op pm_M262 (pc' := 7) (st' := [.int 0, .ref 41]) rfl rfl rfl ?_
      refine pm_R_lo pm_M262 (pc' := 8) rfl rfl rfl ?_
      refine pm_R_cv pm_M262 (pc' := 11) (a := 41) (ra := [.int x1, .int 0]) (rest := []) (ls' := [.ref 41, .int 0, .int x1]) rfl rfl (Or.inl rfl) pm_M177 rfl rfl (Nat.le_of_ble_eq_true rfl) (Nat.le_of_ble_eq_true rfl) rfl rfl (Nat.le_of_ble_eq_true rfl) rfl rfl ?_
      refine pm_R_lo pm_M177 (pc' := 1) rfl rfl rfl ?_
      refine pm_R_op pm_M177 (pc' := 2) (st' := [.int 0, .int x1]) rfl rfl rfl ?_
      refine pm_R_lo pm_M177 (pc' := 3) rfl rfl rfl ?_
      refine pm_R_get pm_M177 (pc' := 6) (v := .ref 46) rfl rfl rfl (Nat.le_of_ble_eq_true rfl) (Nat.le_of_ble_eq_true rfl) rfl rfl ?_
      refine pm_R_lo pm_M177 (pc' := 7) rfl rfl rfl ?_
      refine pm_R_iald pm_M177 (pc' := 8) (v := 0) rfl (hh 46 (Nat.le_of_ble_eq_true rfl)) (Nat.le_of_ble_eq_true rfl) rfl rfl rfl ?_
      refine pm_R_op pm_M177 (pc' := 9) (st' := [.int 1, .int 0, .int 0, .int x1]) rfl rfl rfl ?_
      refine pm_R_op pm_M177 (pc' := 10) (st' := [.int (-1), .int 0, .int x1]) rfl rfl rfl ?_
      refine pm_R_cs pm_M177 (pc' := 13) (ra := [.int (-1), .int 0, .int x1]) (rest := []) (ls' := [.int x1, .int 0, .int (-1)]) rfl rfl (Or.inl rfl) pm_M174 rfl rfl (Nat.le_of_ble_eq_true rfl) rfl rfl ?_
      refine pm_R_lo pm_M174 (pc' := 1) rfl rfl rfl ?_
      refine pm_R_lo pm_M174 (pc' := 2) rfl rfl rfl ?_
      refine pm_R_icmp pm_M174 (t := 14) (pc' := 5) rfl rfl rfl (fun c_3 => ?_) (fun c_3 => by exact absurd c_1 c_3)
      refine pm_R_op pm_M174 (pc' := 15) (st' := [.int 0]) rfl rfl rfl ?_
      refine pm_R_ret pm_M174 (r := some (.int 0)) rfl rfl ?_
      show pm_R _ 177 13 [.ref 41, .int 0, .int x1] [.int 0] _ _
      refine pm_R_ret pm_M177 (r := some (.int 0)) rfl rfl ?_
      show pm_R _ 262 11 [.ref 41, .int x1, .int x2, .int x3, .int x4, .int x5] [.int 0] _ _
      refine pm_R_br pm_M262 (pc' := 38) (st' := []) rfl rfl ?_
      refine pm_R_op pm_M262 (pc' := 40) (st' := [.int (-2)]) rfl rfl rfl ?_
      refine pm_R_ret pm_M262 (r := some (.int (-2))) rfl rfl ?_
      show pm_R _ 0 1323 [.ref 0, .ref 16, .ref 41, .int 0] [.int (-2), .int (-2)] _ _
      refine pm_R_br pm_M0 (pc' := 2121) (st' := []) (pm_q0_16 (Nat.le_of_ble_eq_true rfl)) rfl ?_
      exact p1_tail (hh 0 (Nat.le_of_ble_eq_true rfl)) (Nat.le_of_ble_eq_true rfl) (Nat.le_of_ble_eq_true rfl) (Nat.le_of_ble_eq_true rfl)
    · refine pm_R_lo pm_M139 (pc' := 5) rfl rfl rfl ?_
      refine pm_R_lo pm_M139 (pc' := 6) rfl rfl rfl ?_
      refine pm_R_get pm_M139 (pc' := 9) (v := .ref 17) rfl rfl (hh 16 (Nat.le_of_ble_eq_true rfl)) (Nat.le_of_ble_eq_true rfl) (Nat.le_of_ble_eq_true rfl) rfl rfl ?_
      refine pm_R_get pm_M139 (pc' := 12) (v := .ref 23) rfl rfl (hh 17 (Nat.le_of_ble_eq_true rfl)) (Nat.le_of_ble_eq_true rfl) (Nat.le_of_ble_eq_true rfl) rfl rfl ?_
      refine pm_R_op pm_M139 (pc' := 13) (st' := [.int 2, .ref 23, .int x2]) rfl rfl rfl ?_
      refine pm_R_iald pm_M139 (pc' := 14) (v := 0) rfl (hh 23 (Nat.le_of_ble_eq_true rfl)) (Nat.le_of_ble_eq_true rfl) rfl rfl rfl ?_
      refine pm_R_icmp pm_M139 (t := 21) (pc' := 17) rfl rfl rfl (fun c_4 => by exact absurd c_4 c_2) (fun c_4 => ?_)
      refine pm_R_op pm_M139 (pc' := 18) (st' := [.null]) rfl rfl rfl ?_
      refine pm_R_br pm_M139 (pc' := 30) rfl rfl ?_
      refine pm_R_ret pm_M139 (r := some (.null)) rfl rfl ?_
      show pm_R _ 148 12 [.ref 16, .int x1, .int x2, .int x3, .int x4, .int x5, .null, pm_no] [.null] _ _
      refine pm_R_lo pm_M148 (pc' := 14) (ls' := [.ref 16, .int x1, .int x2, .int x3, .int x4, .int x5, .null, .null]) (st' := []) rfl rfl rfl ?_
      refine pm_R_lo pm_M148 (pc' := 16) rfl rfl rfl ?_
      refine pm_R_br pm_M148 (pc' := 35) rfl rfl ?_
      refine pm_R_op pm_M148 (pc' := 37) (st' := [.int (-2)]) rfl rfl rfl ?_
      refine pm_R_ret pm_M148 (r := some (.int (-2))) rfl rfl ?_
      show pm_R _ 0 1294 [.ref 0, .ref 16, .ref 41, .int 0] [.int (-2)] _ _
      refine pm_R_lo pm_M0 (pc' := 1295) (pm_q0_15 (Nat.le_of_ble_eq_true rfl)) rfl rfl ?_
      refine pm_R_lo pm_M0 (pc' := 1296) (pm_q0_15 (Nat.le_of_ble_eq_true rfl)) rfl rfl ?_
      refine pm_R_lo pm_M0 (pc' := 1297) (pm_q0_15 (Nat.le_of_ble_eq_true rfl)) rfl rfl ?_
      refine pm_R_op pm_M0 (pc' := 1298) (st' := [.int 1, .int 0, .ref 0, .ref 41, .int (-2)]) (pm_q0_15 (Nat.le_of_ble_eq_true rfl)) rfl rfl ?_
      refine pm_R_op pm_M0 (pc' := 1299) (st' := [.int 1, .ref 0, .ref 41, .int (-2)]) (pm_q0_15 (Nat.le_of_ble_eq_true rfl)) rfl rfl ?_
      refine pm_R_iald pm_M0 (pc' := 1300) (v := x1) (pm_q0_15 (Nat.le_of_ble_eq_true rfl)) (hh 0 (Nat.le_of_ble_eq_true rfl)) (Nat.le_of_ble_eq_true rfl) rfl hx1 rfl ?_
      refine pm_R_lo pm_M0 (pc' := 1301) (pm_q0_15 (Nat.le_of_ble_eq_true rfl)) rfl rfl ?_
      refine pm_R_lo pm_M0 (pc' := 1302) (pm_q0_15 (Nat.le_of_ble_eq_true rfl)) rfl rfl ?_
      refine pm_R_op pm_M0 (pc' := 1303) (st' := [.int 2, .int 0, .ref 0, .int x1, .ref 41, .int (-2)]) (pm_q0_15 (Nat.le_of_ble_eq_true rfl)) rfl rfl ?_
      refine pm_R_op pm_M0 (pc' := 1304) (st' := [.int 2, .ref 0, .int x1, .ref 41, .int (-2)]) (pm_q0_15 (Nat.le_of_ble_eq_true rfl)) rfl rfl ?_
      refine pm_R_iald pm_M0 (pc' := 1305) (v := x2) (pm_q0_15 (Nat.le_of_ble_eq_true rfl)) (hh 0 (Nat.le_of_ble_eq_true rfl)) (Nat.le_of_ble_eq_true rfl) rfl hx2 rfl ?_
      refine pm_R_lo pm_M0 (pc' := 1306) (pm_q0_15 (Nat.le_of_ble_eq_true rfl)) rfl rfl ?_
      refine pm_R_lo pm_M0 (pc' := 1307) (pm_q0_15 (Nat.le_of_ble_eq_true rfl)) rfl rfl ?_
      refine pm_R_op pm_M0 (pc' := 1308) (st' := [.int 3, .int 0, .ref 0, .int x2, .int x1, .ref 41, .int (-2)]) (pm_q0_15 (Nat.le_of_ble_eq_true rfl)) rfl rfl ?_
      refine pm_R_op pm_M0 (pc' := 1309) (st' := [.int 3, .ref 0, .int x2, .int x1, .ref 41, .int (-2)]) (pm_q0_15 (Nat.le_of_ble_eq_true rfl)) rfl rfl ?_
      refine pm_R_iald pm_M0 (pc' := 1310) (v := x3) (pm_q0_15 (Nat.le_of_ble_eq_true rfl)) (hh 0 (Nat.le_of_ble_eq_true rfl)) (Nat.le_of_ble_eq_true rfl) rfl hx3 rfl ?_
      refine pm_R_lo pm_M0 (pc' := 1311) (pm_q0_16 (Nat.le_of_ble_eq_true rfl)) rfl rfl ?_
      refine pm_R_lo pm_M0 (pc' := 1312) (pm_q0_16 (Nat.le_of_ble_eq_true rfl)) rfl rfl ?_
      refine pm_R_op pm_M0 (pc' := 1313) (st' := [.int 4, .int 0, .ref 0, .int x3, .int x2, .int x1, .ref 41, .int (-2)]) (pm_q0_16 (Nat.le_of_ble_eq_true rfl)) rfl rfl ?_
      refine pm_R_op pm_M0 (pc' := 1314) (st' := [.int 4, .ref 0, .int x3, .int x2, .int x1, .ref 41, .int (-2)]) (pm_q0_16 (Nat.le_of_ble_eq_true rfl)) rfl rfl ?_
      refine pm_R_iald pm_M0 (pc' := 1315) (v := x4) (pm_q0_16 (Nat.le_of_ble_eq_true rfl)) (hh 0 (Nat.le_of_ble_eq_true rfl)) (Nat.le_of_ble_eq_true rfl) rfl hx4 rfl ?_
      refine pm_R_lo pm_M0 (pc' := 1316) (pm_q0_16 (Nat.le_of_ble_eq_true rfl)) rfl rfl ?_
      refine pm_R_lo pm_M0 (pc' := 1317) (pm_q0_16 (Nat.le_of_ble_eq_true rfl)) rfl rfl ?_
      refine pm_R_op pm_M0 (pc' := 1318) (st' := [.int 5, .int 0, .ref 0, .int x4, .int x3, .int x2, .int x1, .ref 41, .int (-2)]) (pm_q0_16 (Nat.le_of_ble_eq_true rfl)) rfl rfl ?_
      refine pm_R_op pm_M0 (pc' := 1319) (st' := [.int 5, .ref 0, .int x4, .int x3, .int x2, .int x1, .ref 41, .int (-2)]) (pm_q0_16 (Nat.le_of_ble_eq_true rfl)) rfl rfl ?_
      refine pm_R_iald pm_M0 (pc' := 1320) (v := x5) (pm_q0_16 (Nat.le_of_ble_eq_true rfl)) (hh 0 (Nat.le_of_ble_eq_true rfl)) (Nat.le_of_ble_eq_true rfl) rfl hx5 rfl ?_
      refine pm_R_cv pm_M0 (pc' := 1323) (a := 41) (ra := [.int x5, .int x4, .int x3, .int x2, .int x1]) (rest := [.int (-2)]) (ls' := [.ref 41, .int x1, .int x2, .int x3, .int x4, .int x5]) (pm_q0_16 (Nat.le_of_ble_eq_true rfl)) rfl (Or.inl rfl) pm_M262 (hh 41 (Nat.le_of_ble_eq_true rfl)) rfl (Nat.le_of_ble_eq_true rfl) (Nat.le_of_ble_eq_true rfl) rfl rfl (Nat.le_of_ble_eq_true rfl) rfl rfl ?_
      refine pm_R_lo pm_M262 (pc' := 1) rfl rfl rfl ?_
      refine pm_R_op pm_M262 (pc' := 2) (st' := [.int 0, .ref 41]) rfl rfl rfl ?_
      refine pm_R_put pm_M262 (pc' := 5) (fs' := [.int 0, .ref 42, .ref 43, .ref 44, .ref 45, .ref 46, .ref 47, .ref 48, .ref 49, .ref 50, .int 0, .int 0, .int 0, .int 0, .int 0, .long 0, .int 0, .int 0, .int 0, .ref 51, .ref 52, .int 0, .int 0, .int 0, .int 0, .ref 53, .int 0, .int 0, .ref 54, .ref 55, .ref 56, .int 0, .ref 57, .ref 58, .ref 59, .ref 60, .ref 61, .ref 62, .ref 63, .ref 64, .ref 65, .ref 66, .int 0, .int 0, .int 0, .ref 67, .ref 68, .int 0, .ref 69, .int 0, .int 0, .ref 70, .ref 71]) rfl rfl rfl (hh 41 (Nat.le_of_ble_eq_true rfl)) (Nat.le_of_ble_eq_true rfl) (Nat.le_of_ble_eq_true rfl) (Nat.le_of_ble_eq_true rfl) rfl (Or.inl rfl) rfl rfl ?_
      refine pm_R_lo pm_M262 (pc' := 6) rfl rfl rfl ?_
      refine pm_R_op pm_M262 (pc' := 7) (st' := [.int 0, .ref 41]) rfl rfl rfl ?_
      refine pm_R_lo pm_M262 (pc' := 8) rfl rfl rfl ?_
      refine pm_R_cv pm_M262 (pc' := 11) (a := 41) (ra := [.int x1, .int 0]) (rest := []) (ls' := [.ref 41, .int 0, .int x1]) rfl rfl (Or.inl rfl) pm_M177 rfl rfl (Nat.le_of_ble_eq_true rfl) (Nat.le_of_ble_eq_true rfl) rfl rfl (Nat.le_of_ble_eq_true rfl) rfl rfl ?_
      refine pm_R_lo pm_M177 (pc' := 1) rfl rfl rfl ?_
      refine pm_R_op pm_M177 (pc' := 2) (st' := [.int 0, .int x1]) rfl rfl rfl ?_
      refine pm_R_lo pm_M177 (pc' := 3) rfl rfl rfl ?_
      refine pm_R_get pm_M177 (pc' := 6) (v := .ref 46) rfl rfl rfl (Nat.le_of_ble_eq_true rfl) (Nat.le_of_ble_eq_true rfl) rfl rfl ?_
      refine pm_R_lo pm_M177 (pc' := 7) rfl rfl rfl ?_
      refine pm_R_iald pm_M177 (pc' := 8) (v := 0) rfl (hh 46 (Nat.le_of_ble_eq_true rfl)) (Nat.le_of_ble_eq_true rfl) rfl rfl rfl ?_
      refine pm_R_op pm_M177 (pc' := 9) (st' := [.int 1, .int 0, .int 0, .int x1]) rfl rfl rfl ?_
      refine pm_R_op pm_M177 (pc' := 10) (st' := [.int (-1), .int 0, .int x1]) rfl rfl rfl ?_
      refine pm_R_cs pm_M177 (pc' := 13) (ra := [.int (-1), .int 0, .int x1]) (rest := []) (ls' := [.int x1, .int 0, .int (-1)]) rfl rfl (Or.inl rfl) pm_M174 rfl rfl (Nat.le_of_ble_eq_true rfl) rfl rfl ?_
      refine pm_R_lo pm_M174 (pc' := 1) rfl rfl rfl ?_
      refine pm_R_lo pm_M174 (pc' := 2) rfl rfl rfl ?_
      refine pm_R_icmp pm_M174 (t := 14) (pc' := 5) rfl rfl rfl (fun c_5 => ?_) (fun c_5 => by exact absurd c_1 c_5)
      refine pm_R_op pm_M174 (pc' := 15) (st' := [.int 0]) rfl rfl rfl ?_
      refine pm_R_ret pm_M174 (r := some (.int 0)) rfl rfl ?_
      show pm_R _ 177 13 [.ref 41, .int 0, .int x1] [.int 0] _ _
      refine pm_R_ret pm_M177 (r := some (.int 0)) rfl rfl ?_
      show pm_R _ 262 11 [.ref 41, .int x1, .int x2, .int x3, .int x4, .int x5] [.int 0] _ _
      refine pm_R_br pm_M262 (pc' := 38) (st' := []) rfl rfl ?_
      refine pm_R_op pm_M262 (pc' := 40) (st' := [.int (-2)]) rfl rfl rfl ?_
      refine pm_R_ret pm_M262 (r := some (.int (-2))) rfl rfl ?_
      show pm_R _ 0 1323 [.ref 0, .ref 16, .ref 41, .int 0] [.int (-2), .int (-2)] _ _
      refine pm_R_br pm_M0 (pc' := 2121) (st' := []) (pm_q0_16 (Nat.le_of_ble_eq_true rfl)) rfl ?_
      exact p1_tail (hh 0 (Nat.le_of_ble_eq_true rfl)) (Nat.le_of_ble_eq_true rfl) (Nat.le_of_ble_eq_true rfl) (Nat.le_of_ble_eq_true rfl)
  · refine pm_R_lo pm_M62 (pc' := 5) rfl rfl rfl ?_
    refine pm_R_lo pm_M62 (pc' := 6) rfl rfl rfl ?_
    refine pm_R_get pm_M62 (pc' := 9) (v := .ref 17) rfl rfl (hh 16 (Nat.le_of_ble_eq_true rfl)) (Nat.le_of_ble_eq_true rfl) (Nat.le_of_ble_eq_true rfl) rfl rfl ?_
    refine pm_R_get pm_M62 (pc' := 12) (v := .ref 23) rfl rfl (hh 17 (Nat.le_of_ble_eq_true rfl)) (Nat.le_of_ble_eq_true rfl) (Nat.le_of_ble_eq_true rfl) rfl rfl ?_
    refine pm_R_op pm_M62 (pc' := 13) (st' := [.int 0, .ref 23, .int x1]) rfl rfl rfl ?_
    refine pm_R_iald pm_M62 (pc' := 14) (v := 0) rfl (hh 23 (Nat.le_of_ble_eq_true rfl)) (Nat.le_of_ble_eq_true rfl) rfl rfl rfl ?_
    refine pm_R_icmp pm_M62 (t := 21) (pc' := 17) rfl rfl rfl (fun c_6 => by exact absurd c_6 c_1) (fun c_6 => ?_)
    refine pm_R_op pm_M62 (pc' := 18) (st' := [.null]) rfl rfl rfl ?_
    refine pm_R_br pm_M62 (pc' := 30) rfl rfl ?_
    refine pm_R_ret pm_M62 (r := some (.null)) rfl rfl ?_
    show pm_R _ 148 5 [.ref 16, .int x1, .int x2, .int x3, .int x4, .int x5, pm_no, pm_no] [.null] _ _
    refine pm_R_lo pm_M148 (pc' := 7) (ls' := [.ref 16, .int x1, .int x2, .int x3, .int x4, .int x5, .null, pm_no]) (st' := []) rfl rfl rfl ?_
    refine pm_R_lo pm_M148 (pc' := 8) rfl rfl rfl ?_
    refine pm_R_lo pm_M148 (pc' := 9) rfl rfl rfl ?_
    refine pm_R_cv pm_M148 (pc' := 12) (a := 16) (ra := [.int x2]) (rest := []) (ls' := [.ref 16, .int x2]) rfl rfl (Or.inl rfl) pm_M139 (hh 16 (Nat.le_of_ble_eq_true rfl)) rfl (Nat.le_of_ble_eq_true rfl) (Nat.le_of_ble_eq_true rfl) rfl rfl (Nat.le_of_ble_eq_true rfl) rfl rfl ?_
    refine pm_R_lo pm_M139 (pc' := 1) rfl rfl rfl ?_
    refine pm_R_ifc pm_M139 (t := 17) (pc' := 4) rfl rfl rfl (fun c_7 => ?_) (fun c_7 => ?_)
    · refine pm_R_op pm_M139 (pc' := 18) (st' := [.null]) rfl rfl rfl ?_
      refine pm_R_br pm_M139 (pc' := 30) rfl rfl ?_
      refine pm_R_ret pm_M139 (r := some (.null)) rfl rfl ?_
      show pm_R _ 148 12 [.ref 16, .int x1, .int x2, .int x3, .int x4, .int x5, .null, pm_no] [.null] _ _
      refine pm_R_lo pm_M148 (pc' := 14) (ls' := [.ref 16, .int x1, .int x2, .int x3, .int x4, .int x5, .null, .null]) (st' := []) rfl rfl rfl ?_
      refine pm_R_lo pm_M148 (pc' := 16) rfl rfl rfl ?_
      refine pm_R_br pm_M148 (pc' := 35) rfl rfl ?_
      refine pm_R_op pm_M148 (pc' := 37) (st' := [.int (-2)]) rfl rfl rfl ?_
      refine pm_R_ret pm_M148 (r := some (.int (-2))) rfl rfl ?_
      show pm_R _ 0 1294 [.ref 0, .ref 16, .ref 41, .int 0] [.int (-2)] _ _
      refine pm_R_lo pm_M0 (pc' := 1295) (pm_q0_15 (Nat.le_of_ble_eq_true rfl)) rfl rfl ?_
      refine pm_R_lo pm_M0 (pc' := 1296) (pm_q0_15 (Nat.le_of_ble_eq_true rfl)) rfl rfl ?_
      refine pm_R_lo pm_M0 (pc' := 1297) (pm_q0_15 (Nat.le_of_ble_eq_true rfl)) rfl rfl ?_
      refine pm_R_op pm_M0 (pc' := 1298) (st' := [.int 1, .int 0, .ref 0, .ref 41, .int (-2)]) (pm_q0_15 (Nat.le_of_ble_eq_true rfl)) rfl rfl ?_
      refine pm_R_op pm_M0 (pc' := 1299) (st' := [.int 1, .ref 0, .ref 41, .int (-2)]) (pm_q0_15 (Nat.le_of_ble_eq_true rfl)) rfl rfl ?_
      refine pm_R_iald pm_M0 (pc' := 1300) (v := x1) (pm_q0_15 (Nat.le_of_ble_eq_true rfl)) (hh 0 (Nat.le_of_ble_eq_true rfl)) (Nat.le_of_ble_eq_true rfl) rfl hx1 rfl ?_
      refine pm_R_lo pm_M0 (pc' := 1301) (pm_q0_15 (Nat.le_of_ble_eq_true rfl)) rfl rfl ?_
      refine pm_R_lo pm_M0 (pc' := 1302) (pm_q0_15 (Nat.le_of_ble_eq_true rfl)) rfl rfl ?_
      refine pm_R_op pm_M0 (pc' := 1303) (st' := [.int 2, .int 0, .ref 0, .int x1, .ref 41, .int (-2)]) (pm_q0_15 (Nat.le_of_ble_eq_true rfl)) rfl rfl ?_
      refine pm_R_op pm_M0 (pc' := 1304) (st' := [.int 2, .ref 0, .int x1, .ref 41, .int (-2)]) (pm_q0_15 (Nat.le_of_ble_eq_true rfl)) rfl rfl ?_
      refine pm_R_iald pm_M0 (pc' := 1305) (v := x2) (pm_q0_15 (Nat.le_of_ble_eq_true rfl)) (hh 0 (Nat.le_of_ble_eq_true rfl)) (Nat.le_of_ble_eq_true rfl) rfl hx2 rfl ?_
      refine pm_R_lo pm_M0 (pc' := 1306) (pm_q0_15 (Nat.le_of_ble_eq_true rfl)) rfl rfl ?_
      refine pm_R_lo pm_M0 (pc' := 1307) (pm_q0_15 (Nat.le_of_ble_eq_true rfl)) rfl rfl ?_
      refine pm_R_op pm_M0 (pc' := 1308) (st' := [.int 3, .int 0, .ref 0, .int x2, .int x1, .ref 41, .int (-2)]) (pm_q0_15 (Nat.le_of_ble_eq_true rfl)) rfl rfl ?_
      refine pm_R_op pm_M0 (pc' := 1309) (st' := [.int 3, .ref 0, .int x2, .int x1, .ref 41, .int (-2)]) (pm_q0_15 (Nat.le_of_ble_eq_true rfl)) rfl rfl ?_
      refine pm_R_iald pm_M0 (pc' := 1310) (v := x3) (pm_q0_15 (Nat.le_of_ble_eq_true rfl)) (hh 0 (Nat.le_of_ble_eq_true rfl)) (Nat.le_of_ble_eq_true rfl) rfl hx3 rfl ?_
      refine pm_R_lo pm_M0 (pc' := 1311) (pm_q0_16 (Nat.le_of_ble_eq_true rfl)) rfl rfl ?_
      refine pm_R_lo pm_M0 (pc' := 1312) (pm_q0_16 (Nat.le_of_ble_eq_true rfl)) rfl rfl ?_
      refine pm_R_op pm_M0 (pc' := 1313) (st' := [.int 4, .int 0, .ref 0, .int x3, .int x2, .int x1, .ref 41, .int (-2)]) (pm_q0_16 (Nat.le_of_ble_eq_true rfl)) rfl rfl ?_
      refine pm_R_op pm_M0 (pc' := 1314) (st' := [.int 4, .ref 0, .int x3, .int x2, .int x1, .ref 41, .int (-2)]) (pm_q0_16 (Nat.le_of_ble_eq_true rfl)) rfl rfl ?_
      refine pm_R_iald pm_M0 (pc' := 1315) (v := x4) (pm_q0_16 (Nat.le_of_ble_eq_true rfl)) (hh 0 (Nat.le_of_ble_eq_true rfl)) (Nat.le_of_ble_eq_true rfl) rfl hx4 rfl ?_
      refine pm_R_lo pm_M0 (pc' := 1316) (pm_q0_16 (Nat.le_of_ble_eq_true rfl)) rfl rfl ?_
      refine pm_R_lo pm_M0 (pc' := 1317) (pm_q0_16 (Nat.le_of_ble_eq_true rfl)) rfl rfl ?_
      refine pm_R_op pm_M0 (pc' := 1318) (st' := [.int 5, .int 0, .ref 0, .int x4, .int x3, .int x2, .int x1, .ref 41, .int (-2)]) (pm_q0_16 (Nat.le_of_ble_eq_true rfl)) rfl rfl ?_
      refine pm_R_op pm_M0 (pc' := 1319) (st' := [.int 5, .ref 0, .int x4, .int x3, .int x2, .int x1, .ref 41, .int (-2)]) (pm_q0_16 (Nat.le_of_ble_eq_true rfl)) rfl rfl ?_
      refine pm_R_iald pm_M0 (pc' := 1320) (v := x5) (pm_q0_16 (Nat.le_of_ble_eq_true rfl)) (hh 0 (Nat.le_of_ble_eq_true rfl)) (Nat.le_of_ble_eq_true rfl) rfl hx5 rfl ?_
      refine pm_R_cv pm_M0 (pc' := 1323) (a := 41) (ra := [.int x5, .int x4, .int x3, .int x2, .int x1]) (rest := [.int (-2)]) (ls' := [.ref 41, .int x1, .int x2, .int x3, .int x4, .int x5]) (pm_q0_16 (Nat.le_of_ble_eq_true rfl)) rfl (Or.inl rfl) pm_M262 (hh 41 (Nat.le_of_ble_eq_true rfl)) rfl (Nat.le_of_ble_eq_true rfl) (Nat.le_of_ble_eq_true rfl) rfl rfl (Nat.le_of_ble_eq_true rfl) rfl rfl ?_
      refine pm_R_lo pm_M262 (pc' := 1) rfl rfl rfl ?_
      refine pm_R_op pm_M262 (pc' := 2) (st' := [.int 0, .ref 41]) rfl rfl rfl ?_
      refine pm_R_put pm_M262 (pc' := 5) (fs' := [.int 0, .ref 42, .ref 43, .ref 44, .ref 45, .ref 46, .ref 47, .ref 48, .ref 49, .ref 50, .int 0, .int 0, .int 0, .int 0, .int 0, .long 0, .int 0, .int 0, .int 0, .ref 51, .ref 52, .int 0, .int 0, .int 0, .int 0, .ref 53, .int 0, .int 0, .ref 54, .ref 55, .ref 56, .int 0, .ref 57, .ref 58, .ref 59, .ref 60, .ref 61, .ref 62, .ref 63, .ref 64, .ref 65, .ref 66, .int 0, .int 0, .int 0, .ref 67, .ref 68, .int 0, .ref 69, .int 0, .int 0, .ref 70, .ref 71]) rfl rfl rfl (hh 41 (Nat.le_of_ble_eq_true rfl)) (Nat.le_of_ble_eq_true rfl) (Nat.le_of_ble_eq_true rfl) (Nat.le_of_ble_eq_true rfl) rfl (Or.inl rfl) rfl rfl ?_
      refine pm_R_lo pm_M262 (pc' := 6) rfl rfl rfl ?_
      refine pm_R_op pm_M262 (pc' := 7) (st' := [.int 0, .ref 41]) rfl rfl rfl ?_
      refine pm_R_lo pm_M262 (pc' := 8) rfl rfl rfl ?_
      refine pm_R_cv pm_M262 (pc' := 11) (a := 41) (ra := [.int x1, .int 0]) (rest := []) (ls' := [.ref 41, .int 0, .int x1]) rfl rfl (Or.inl rfl) pm_M177 rfl rfl (Nat.le_of_ble_eq_true rfl) (Nat.le_of_ble_eq_true rfl) rfl rfl (Nat.le_of_ble_eq_true rfl) rfl rfl ?_
      refine pm_R_lo pm_M177 (pc' := 1) rfl rfl rfl ?_
      refine pm_R_op pm_M177 (pc' := 2) (st' := [.int 0, .int x1]) rfl rfl rfl ?_
      refine pm_R_lo pm_M177 (pc' := 3) rfl rfl rfl ?_
      refine pm_R_get pm_M177 (pc' := 6) (v := .ref 46) rfl rfl rfl (Nat.le_of_ble_eq_true rfl) (Nat.le_of_ble_eq_true rfl) rfl rfl ?_
      refine pm_R_lo pm_M177 (pc' := 7) rfl rfl rfl ?_
      refine pm_R_iald pm_M177 (pc' := 8) (v := 0) rfl (hh 46 (Nat.le_of_ble_eq_true rfl)) (Nat.le_of_ble_eq_true rfl) rfl rfl rfl ?_
      refine pm_R_op pm_M177 (pc' := 9) (st' := [.int 1, .int 0, .int 0, .int x1]) rfl rfl rfl ?_
      refine pm_R_op pm_M177 (pc' := 10) (st' := [.int (-1), .int 0, .int x1]) rfl rfl rfl ?_
      refine pm_R_cs pm_M177 (pc' := 13) (ra := [.int (-1), .int 0, .int x1]) (rest := []) (ls' := [.int x1, .int 0, .int (-1)]) rfl rfl (Or.inl rfl) pm_M174 rfl rfl (Nat.le_of_ble_eq_true rfl) rfl rfl ?_
      refine pm_R_lo pm_M174 (pc' := 1) rfl rfl rfl ?_
      refine pm_R_lo pm_M174 (pc' := 2) rfl rfl rfl ?_
      refine pm_R_icmp pm_M174 (t := 14) (pc' := 5) rfl rfl rfl (fun c_8 => by exact absurd c_8 c_1) (fun c_8 => ?_)
      refine pm_R_lo pm_M174 (pc' := 6) rfl rfl rfl ?_
      refine pm_R_lo pm_M174 (pc' := 7) rfl rfl rfl ?_
      refine pm_R_icmp pm_M174 (t := 14) (pc' := 10) rfl rfl rfl (fun c_9 => ?_) (fun c_9 => by have z0 : ((-1) : Int32).toInt = -1 := (by decide); have z1 : ((0) : Int32).toInt = 0 := (by decide); have q0 := (Int32.le_iff_toInt_le.mp (Int32.not_lt.mp c_1)); have q1 := (Int32.le_iff_toInt_le.mp (Int32.not_lt.mp c_9)); exfalso; omega)
      refine pm_R_op pm_M174 (pc' := 15) (st' := [.int 0]) rfl rfl rfl ?_
      refine pm_R_ret pm_M174 (r := some (.int 0)) rfl rfl ?_
      show pm_R _ 177 13 [.ref 41, .int 0, .int x1] [.int 0] _ _
      refine pm_R_ret pm_M177 (r := some (.int 0)) rfl rfl ?_
      show pm_R _ 262 11 [.ref 41, .int x1, .int x2, .int x3, .int x4, .int x5] [.int 0] _ _
      refine pm_R_br pm_M262 (pc' := 38) (st' := []) rfl rfl ?_
      refine pm_R_op pm_M262 (pc' := 40) (st' := [.int (-2)]) rfl rfl rfl ?_
      refine pm_R_ret pm_M262 (r := some (.int (-2))) rfl rfl ?_
      show pm_R _ 0 1323 [.ref 0, .ref 16, .ref 41, .int 0] [.int (-2), .int (-2)] _ _
      refine pm_R_br pm_M0 (pc' := 2121) (st' := []) (pm_q0_16 (Nat.le_of_ble_eq_true rfl)) rfl ?_
      exact p1_tail (hh 0 (Nat.le_of_ble_eq_true rfl)) (Nat.le_of_ble_eq_true rfl) (Nat.le_of_ble_eq_true rfl) (Nat.le_of_ble_eq_true rfl)
    · refine pm_R_lo pm_M139 (pc' := 5) rfl rfl rfl ?_
      refine pm_R_lo pm_M139 (pc' := 6) rfl rfl rfl ?_
      refine pm_R_get pm_M139 (pc' := 9) (v := .ref 17) rfl rfl (hh 16 (Nat.le_of_ble_eq_true rfl)) (Nat.le_of_ble_eq_true rfl) (Nat.le_of_ble_eq_true rfl) rfl rfl ?_
      refine pm_R_get pm_M139 (pc' := 12) (v := .ref 23) rfl rfl (hh 17 (Nat.le_of_ble_eq_true rfl)) (Nat.le_of_ble_eq_true rfl) (Nat.le_of_ble_eq_true rfl) rfl rfl ?_
      refine pm_R_op pm_M139 (pc' := 13) (st' := [.int 2, .ref 23, .int x2]) rfl rfl rfl ?_
      refine pm_R_iald pm_M139 (pc' := 14) (v := 0) rfl (hh 23 (Nat.le_of_ble_eq_true rfl)) (Nat.le_of_ble_eq_true rfl) rfl rfl rfl ?_
      refine pm_R_icmp pm_M139 (t := 21) (pc' := 17) rfl rfl rfl (fun c_10 => by exact absurd c_10 c_7) (fun c_10 => ?_)
      refine pm_R_op pm_M139 (pc' := 18) (st' := [.null]) rfl rfl rfl ?_
      refine pm_R_br pm_M139 (pc' := 30) rfl rfl ?_
      refine pm_R_ret pm_M139 (r := some (.null)) rfl rfl ?_
      show pm_R _ 148 12 [.ref 16, .int x1, .int x2, .int x3, .int x4, .int x5, .null, pm_no] [.null] _ _
      refine pm_R_lo pm_M148 (pc' := 14) (ls' := [.ref 16, .int x1, .int x2, .int x3, .int x4, .int x5, .null, .null]) (st' := []) rfl rfl rfl ?_
      refine pm_R_lo pm_M148 (pc' := 16) rfl rfl rfl ?_
      refine pm_R_br pm_M148 (pc' := 35) rfl rfl ?_
      refine pm_R_op pm_M148 (pc' := 37) (st' := [.int (-2)]) rfl rfl rfl ?_
      refine pm_R_ret pm_M148 (r := some (.int (-2))) rfl rfl ?_
      show pm_R _ 0 1294 [.ref 0, .ref 16, .ref 41, .int 0] [.int (-2)] _ _
      refine pm_R_lo pm_M0 (pc' := 1295) (pm_q0_15 (Nat.le_of_ble_eq_true rfl)) rfl rfl ?_
      refine pm_R_lo pm_M0 (pc' := 1296) (pm_q0_15 (Nat.le_of_ble_eq_true rfl)) rfl rfl ?_
      refine pm_R_lo pm_M0 (pc' := 1297) (pm_q0_15 (Nat.le_of_ble_eq_true rfl)) rfl rfl ?_
      refine pm_R_op pm_M0 (pc' := 1298) (st' := [.int 1, .int 0, .ref 0, .ref 41, .int (-2)]) (pm_q0_15 (Nat.le_of_ble_eq_true rfl)) rfl rfl ?_
      refine pm_R_op pm_M0 (pc' := 1299) (st' := [.int 1, .ref 0, .ref 41, .int (-2)]) (pm_q0_15 (Nat.le_of_ble_eq_true rfl)) rfl rfl ?_
      refine pm_R_iald pm_M0 (pc' := 1300) (v := x1) (pm_q0_15 (Nat.le_of_ble_eq_true rfl)) (hh 0 (Nat.le_of_ble_eq_true rfl)) (Nat.le_of_ble_eq_true rfl) rfl hx1 rfl ?_
      refine pm_R_lo pm_M0 (pc' := 1301) (pm_q0_15 (Nat.le_of_ble_eq_true rfl)) rfl rfl ?_
      refine pm_R_lo pm_M0 (pc' := 1302) (pm_q0_15 (Nat.le_of_ble_eq_true rfl)) rfl rfl ?_
      refine pm_R_op pm_M0 (pc' := 1303) (st' := [.int 2, .int 0, .ref 0, .int x1, .ref 41, .int (-2)]) (pm_q0_15 (Nat.le_of_ble_eq_true rfl)) rfl rfl ?_
      refine pm_R_op pm_M0 (pc' := 1304) (st' := [.int 2, .ref 0, .int x1, .ref 41, .int (-2)]) (pm_q0_15 (Nat.le_of_ble_eq_true rfl)) rfl rfl ?_
      refine pm_R_iald pm_M0 (pc' := 1305) (v := x2) (pm_q0_15 (Nat.le_of_ble_eq_true rfl)) (hh 0 (Nat.le_of_ble_eq_true rfl)) (Nat.le_of_ble_eq_true rfl) rfl hx2 rfl ?_
      refine pm_R_lo pm_M0 (pc' := 1306) (pm_q0_15 (Nat.le_of_ble_eq_true rfl)) rfl rfl ?_
      refine pm_R_lo pm_M0 (pc' := 1307) (pm_q0_15 (Nat.le_of_ble_eq_true rfl)) rfl rfl ?_
      refine pm_R_op pm_M0 (pc' := 1308) (st' := [.int 3, .int 0, .ref 0, .int x2, .int x1, .ref 41, .int (-2)]) (pm_q0_15 (Nat.le_of_ble_eq_true rfl)) rfl rfl ?_
      refine pm_R_op pm_M0 (pc' := 1309) (st' := [.int 3, .ref 0, .int x2, .int x1, .ref 41, .int (-2)]) (pm_q0_15 (Nat.le_of_ble_eq_true rfl)) rfl rfl ?_
      refine pm_R_iald pm_M0 (pc' := 1310) (v := x3) (pm_q0_15 (Nat.le_of_ble_eq_true rfl)) (hh 0 (Nat.le_of_ble_eq_true rfl)) (Nat.le_of_ble_eq_true rfl) rfl hx3 rfl ?_
      refine pm_R_lo pm_M0 (pc' := 1311) (pm_q0_16 (Nat.le_of_ble_eq_true rfl)) rfl rfl ?_
      refine pm_R_lo pm_M0 (pc' := 1312) (pm_q0_16 (Nat.le_of_ble_eq_true rfl)) rfl rfl ?_
      refine pm_R_op pm_M0 (pc' := 1313) (st' := [.int 4, .int 0, .ref 0, .int x3, .int x2, .int x1, .ref 41, .int (-2)]) (pm_q0_16 (Nat.le_of_ble_eq_true rfl)) rfl rfl ?_
      refine pm_R_op pm_M0 (pc' := 1314) (st' := [.int 4, .ref 0, .int x3, .int x2, .int x1, .ref 41, .int (-2)]) (pm_q0_16 (Nat.le_of_ble_eq_true rfl)) rfl rfl ?_
      refine pm_R_iald pm_M0 (pc' := 1315) (v := x4) (pm_q0_16 (Nat.le_of_ble_eq_true rfl)) (hh 0 (Nat.le_of_ble_eq_true rfl)) (Nat.le_of_ble_eq_true rfl) rfl hx4 rfl ?_
      refine pm_R_lo pm_M0 (pc' := 1316) (pm_q0_16 (Nat.le_of_ble_eq_true rfl)) rfl rfl ?_
      refine pm_R_lo pm_M0 (pc' := 1317) (pm_q0_16 (Nat.le_of_ble_eq_true rfl)) rfl rfl ?_
      refine pm_R_op pm_M0 (pc' := 1318) (st' := [.int 5, .int 0, .ref 0, .int x4, .int x3, .int x2, .int x1, .ref 41, .int (-2)]) (pm_q0_16 (Nat.le_of_ble_eq_true rfl)) rfl rfl ?_
      refine pm_R_op pm_M0 (pc' := 1319) (st' := [.int 5, .ref 0, .int x4, .int x3, .int x2, .int x1, .ref 41, .int (-2)]) (pm_q0_16 (Nat.le_of_ble_eq_true rfl)) rfl rfl ?_
      refine pm_R_iald pm_M0 (pc' := 1320) (v := x5) (pm_q0_16 (Nat.le_of_ble_eq_true rfl)) (hh 0 (Nat.le_of_ble_eq_true rfl)) (Nat.le_of_ble_eq_true rfl) rfl hx5 rfl ?_
      refine pm_R_cv pm_M0 (pc' := 1323) (a := 41) (ra := [.int x5, .int x4, .int x3, .int x2, .int x1]) (rest := [.int (-2)]) (ls' := [.ref 41, .int x1, .int x2, .int x3, .int x4, .int x5]) (pm_q0_16 (Nat.le_of_ble_eq_true rfl)) rfl (Or.inl rfl) pm_M262 (hh 41 (Nat.le_of_ble_eq_true rfl)) rfl (Nat.le_of_ble_eq_true rfl) (Nat.le_of_ble_eq_true rfl) rfl rfl (Nat.le_of_ble_eq_true rfl) rfl rfl ?_
      refine pm_R_lo pm_M262 (pc' := 1) rfl rfl rfl ?_
      refine pm_R_op pm_M262 (pc' := 2) (st' := [.int 0, .ref 41]) rfl rfl rfl ?_
      refine pm_R_put pm_M262 (pc' := 5) (fs' := [.int 0, .ref 42, .ref 43, .ref 44, .ref 45, .ref 46, .ref 47, .ref 48, .ref 49, .ref 50, .int 0, .int 0, .int 0, .int 0, .int 0, .long 0, .int 0, .int 0, .int 0, .ref 51, .ref 52, .int 0, .int 0, .int 0, .int 0, .ref 53, .int 0, .int 0, .ref 54, .ref 55, .ref 56, .int 0, .ref 57, .ref 58, .ref 59, .ref 60, .ref 61, .ref 62, .ref 63, .ref 64, .ref 65, .ref 66, .int 0, .int 0, .int 0, .ref 67, .ref 68, .int 0, .ref 69, .int 0, .int 0, .ref 70, .ref 71]) rfl rfl rfl (hh 41 (Nat.le_of_ble_eq_true rfl)) (Nat.le_of_ble_eq_true rfl) (Nat.le_of_ble_eq_true rfl) (Nat.le_of_ble_eq_true rfl) rfl (Or.inl rfl) rfl rfl ?_
      refine pm_R_lo pm_M262 (pc' := 6) rfl rfl rfl ?_
      refine pm_R_op pm_M262 (pc' := 7) (st' := [.int 0, .ref 41]) rfl rfl rfl ?_
      refine pm_R_lo pm_M262 (pc' := 8) rfl rfl rfl ?_
      refine pm_R_cv pm_M262 (pc' := 11) (a := 41) (ra := [.int x1, .int 0]) (rest := []) (ls' := [.ref 41, .int 0, .int x1]) rfl rfl (Or.inl rfl) pm_M177 rfl rfl (Nat.le_of_ble_eq_true rfl) (Nat.le_of_ble_eq_true rfl) rfl rfl (Nat.le_of_ble_eq_true rfl) rfl rfl ?_
      refine pm_R_lo pm_M177 (pc' := 1) rfl rfl rfl ?_
      refine pm_R_op pm_M177 (pc' := 2) (st' := [.int 0, .int x1]) rfl rfl rfl ?_
      refine pm_R_lo pm_M177 (pc' := 3) rfl rfl rfl ?_
      refine pm_R_get pm_M177 (pc' := 6) (v := .ref 46) rfl rfl rfl (Nat.le_of_ble_eq_true rfl) (Nat.le_of_ble_eq_true rfl) rfl rfl ?_
      refine pm_R_lo pm_M177 (pc' := 7) rfl rfl rfl ?_
      refine pm_R_iald pm_M177 (pc' := 8) (v := 0) rfl (hh 46 (Nat.le_of_ble_eq_true rfl)) (Nat.le_of_ble_eq_true rfl) rfl rfl rfl ?_
      refine pm_R_op pm_M177 (pc' := 9) (st' := [.int 1, .int 0, .int 0, .int x1]) rfl rfl rfl ?_
      refine pm_R_op pm_M177 (pc' := 10) (st' := [.int (-1), .int 0, .int x1]) rfl rfl rfl ?_
      refine pm_R_cs pm_M177 (pc' := 13) (ra := [.int (-1), .int 0, .int x1]) (rest := []) (ls' := [.int x1, .int 0, .int (-1)]) rfl rfl (Or.inl rfl) pm_M174 rfl rfl (Nat.le_of_ble_eq_true rfl) rfl rfl ?_
      refine pm_R_lo pm_M174 (pc' := 1) rfl rfl rfl ?_
      refine pm_R_lo pm_M174 (pc' := 2) rfl rfl rfl ?_
      refine pm_R_icmp pm_M174 (t := 14) (pc' := 5) rfl rfl rfl (fun c_11 => by exact absurd c_11 c_1) (fun c_11 => ?_)
      refine pm_R_lo pm_M174 (pc' := 6) rfl rfl rfl ?_
      refine pm_R_lo pm_M174 (pc' := 7) rfl rfl rfl ?_
      refine pm_R_icmp pm_M174 (t := 14) (pc' := 10) rfl rfl rfl (fun c_12 => ?_) (fun c_12 => by have z0 : ((-1) : Int32).toInt = -1 := (by decide); have z1 : ((0) : Int32).toInt = 0 := (by decide); have q0 := (Int32.le_iff_toInt_le.mp (Int32.not_lt.mp c_1)); have q1 := (Int32.le_iff_toInt_le.mp (Int32.not_lt.mp c_12)); exfalso; omega)
      refine pm_R_op pm_M174 (pc' := 15) (st' := [.int 0]) rfl rfl rfl ?_
      refine pm_R_ret pm_M174 (r := some (.int 0)) rfl rfl ?_
      show pm_R _ 177 13 [.ref 41, .int 0, .int x1] [.int 0] _ _
      refine pm_R_ret pm_M177 (r := some (.int 0)) rfl rfl ?_
      show pm_R _ 262 11 [.ref 41, .int x1, .int x2, .int x3, .int x4, .int x5] [.int 0] _ _
      refine pm_R_br pm_M262 (pc' := 38) (st' := []) rfl rfl ?_
      refine pm_R_op pm_M262 (pc' := 40) (st' := [.int (-2)]) rfl rfl rfl ?_
      refine pm_R_ret pm_M262 (r := some (.int (-2))) rfl rfl ?_
      show pm_R _ 0 1323 [.ref 0, .ref 16, .ref 41, .int 0] [.int (-2), .int (-2)] _ _
      refine pm_R_br pm_M0 (pc' := 2121) (st' := []) (pm_q0_16 (Nat.le_of_ble_eq_true rfl)) rfl ?_
      exact p1_tail (hh 0 (Nat.le_of_ble_eq_true rfl)) (Nat.le_of_ble_eq_true rfl) (Nat.le_of_ble_eq_true rfl) (Nat.le_of_ble_eq_true rfl)
set_option maxRecDepth 100000 in
set_option maxHeartbeats 40000000 in
theorem p1_c25 (xs : Nat → Int32) (f : Nat → pm_E) (hh : ∀ i, i < 72 → f i = pm_fF 7 xs i) (x0 x1 x2 x3 x4 x5 x6 : Int32) (hx0 : xs 0 = x0) (hx1 : xs 1 = x1) (hx2 : xs 2 = x2) (hx3 : xs 3 = x3) (hx4 : xs 4 = x4) (hx5 : xs 5 = x5) (hx6 : xs 6 = x6) : pm_R 100 0 1328 [.ref 0, .ref 16, .ref 41, .int 0] [] (72, 52657, f) p1_Q := by
  refine pm_R_lo pm_M0 (pc' := 1329) (pm_q0_16 (Nat.le_of_ble_eq_true rfl)) rfl rfl ?_
  refine pm_R_lo pm_M0 (pc' := 1330) (pm_q0_16 (Nat.le_of_ble_eq_true rfl)) rfl rfl ?_
  refine pm_R_lo pm_M0 (pc' := 1331) (pm_q0_16 (Nat.le_of_ble_eq_true rfl)) rfl rfl ?_
  refine pm_R_op pm_M0 (pc' := 1332) (st' := [.int 1, .int 0, .ref 0, .ref 16]) (pm_q0_16 (Nat.le_of_ble_eq_true rfl)) rfl rfl ?_
  refine pm_R_op pm_M0 (pc' := 1333) (st' := [.int 1, .ref 0, .ref 16]) (pm_q0_16 (Nat.le_of_ble_eq_true rfl)) rfl rfl ?_
  refine pm_R_iald pm_M0 (pc' := 1334) (v := x1) (pm_q0_16 (Nat.le_of_ble_eq_true rfl)) (hh 0 (Nat.le_of_ble_eq_true rfl)) (Nat.le_of_ble_eq_true rfl) rfl hx1 rfl ?_
  refine pm_R_lo pm_M0 (pc' := 1335) (pm_q0_16 (Nat.le_of_ble_eq_true rfl)) rfl rfl ?_
  refine pm_R_lo pm_M0 (pc' := 1336) (pm_q0_16 (Nat.le_of_ble_eq_true rfl)) rfl rfl ?_
  refine pm_R_op pm_M0 (pc' := 1337) (st' := [.int 2, .int 0, .ref 0, .int x1, .ref 16]) (pm_q0_16 (Nat.le_of_ble_eq_true rfl)) rfl rfl ?_
  refine pm_R_op pm_M0 (pc' := 1338) (st' := [.int 2, .ref 0, .int x1, .ref 16]) (pm_q0_16 (Nat.le_of_ble_eq_true rfl)) rfl rfl ?_
  refine pm_R_iald pm_M0 (pc' := 1339) (v := x2) (pm_q0_16 (Nat.le_of_ble_eq_true rfl)) (hh 0 (Nat.le_of_ble_eq_true rfl)) (Nat.le_of_ble_eq_true rfl) rfl hx2 rfl ?_
  refine pm_R_lo pm_M0 (pc' := 1340) (pm_q0_16 (Nat.le_of_ble_eq_true rfl)) rfl rfl ?_
  refine pm_R_lo pm_M0 (pc' := 1341) (pm_q0_16 (Nat.le_of_ble_eq_true rfl)) rfl rfl ?_
  refine pm_R_op pm_M0 (pc' := 1342) (st' := [.int 3, .int 0, .ref 0, .int x2, .int x1, .ref 16]) (pm_q0_16 (Nat.le_of_ble_eq_true rfl)) rfl rfl ?_
  refine pm_R_op pm_M0 (pc' := 1343) (st' := [.int 3, .ref 0, .int x2, .int x1, .ref 16]) (pm_q0_16 (Nat.le_of_ble_eq_true rfl)) rfl rfl ?_
  refine pm_R_iald pm_M0 (pc' := 1344) (v := x3) (pm_q0_16 (Nat.le_of_ble_eq_true rfl)) (hh 0 (Nat.le_of_ble_eq_true rfl)) (Nat.le_of_ble_eq_true rfl) rfl hx3 rfl ?_
  refine pm_R_cv pm_M0 (pc' := 1347) (a := 16) (ra := [.int x3, .int x2, .int x1]) (rest := []) (ls' := [.ref 16, .int x1, .int x2, .int x3, pm_no, pm_no, pm_no, pm_no, pm_no, pm_no]) (pm_q0_16 (Nat.le_of_ble_eq_true rfl)) rfl (Or.inl rfl) pm_M150 (hh 16 (Nat.le_of_ble_eq_true rfl)) rfl (Nat.le_of_ble_eq_true rfl) (Nat.le_of_ble_eq_true rfl) rfl rfl (Nat.le_of_ble_eq_true rfl) rfl rfl ?_
  refine pm_R_lo pm_M150 (pc' := 1) rfl rfl rfl ?_
  refine pm_R_lo pm_M150 (pc' := 2) rfl rfl rfl ?_
  refine pm_R_cv pm_M150 (pc' := 5) (a := 16) (ra := [.int x1]) (rest := []) (ls' := [.ref 16, .int x1]) rfl rfl (Or.inl rfl) pm_M62 (hh 16 (Nat.le_of_ble_eq_true rfl)) rfl (Nat.le_of_ble_eq_true rfl) (Nat.le_of_ble_eq_true rfl) rfl rfl (Nat.le_of_ble_eq_true rfl) rfl rfl ?_
  refine pm_R_lo pm_M62 (pc' := 1) rfl rfl rfl ?_
  refine pm_R_ifc pm_M62 (t := 17) (pc' := 4) rfl rfl rfl (fun c_1 => ?_) (fun c_1 => ?_)
  · refine pm_R_op pm_M62 (pc' := 18) (st' := [.null]) rfl rfl rfl ?_
    refine pm_R_br pm_M62 (pc' := 30) rfl rfl ?_
    refine pm_R_ret pm_M62 (r := some (.null)) rfl rfl ?_
    show pm_R _ 150 5 [.ref 16, .int x1, .int x2, .int x3, pm_no, pm_no, pm_no, pm_no, pm_no, pm_no] [.null] _ _
    refine pm_R_lo pm_M150 (pc' := 7) (ls' := [.ref 16, .int x1, .int x2, .int x3, .null, pm_no, pm_no, pm_no, pm_no, pm_no]) (st' := []) rfl rfl rfl ?_
    refine pm_R_lo pm_M150 (pc' := 8) rfl rfl rfl ?_
    refine pm_R_lo pm_M150 (pc' := 9) rfl rfl rfl ?_
    refine pm_R_cv pm_M150 (pc' := 12) (a := 16) (ra := [.int x2]) (rest := []) (ls' := [.ref 16, .int x2]) rfl rfl (Or.inl rfl) pm_M139 (hh 16 (Nat.le_of_ble_eq_true rfl)) rfl (Nat.le_of_ble_eq_true rfl) (Nat.le_of_ble_eq_true rfl) rfl rfl (Nat.le_of_ble_eq_true rfl) rfl rfl ?_
    refine pm_R_lo pm_M139 (pc' := 1) rfl rfl rfl ?_
    refine pm_R_ifc pm_M139 (t := 17) (pc' := 4) rfl rfl rfl (fun c_2 => ?_) (fun c_2 => ?_)
    · refine pm_R_op pm_M139 (pc' := 18) (st' := [.null]) rfl rfl rfl ?_
      refine pm_R_br pm_M139 (pc' := 30) rfl rfl ?_
      refine pm_R_ret pm_M139 (r := some (.null)) rfl rfl ?_
      show pm_R _ 150 12 [.ref 16, .int x1, .int x2, .int x3, .null, pm_no, pm_no, pm_no, pm_no, pm_no] [.null] _ _
      refine pm_R_lo pm_M150 (pc' := 14) (ls' := [.ref 16, .int x1, .int x2, .int x3, .null, .null, pm_no, pm_no, pm_no, pm_no]) (st' := []) rfl rfl rfl ?_
      refine pm_R_lo pm_M150 (pc' := 16) rfl rfl rfl ?_
      refine pm_R_br pm_M150 (pc' := 33) rfl rfl ?_
      refine pm_R_op pm_M150 (pc' := 34) (st' := [.int (-1)]) rfl rfl rfl ?_
      refine pm_R_ret pm_M150 (r := some (.int (-1))) rfl rfl ?_
      show pm_R _ 0 1347 [.ref 0, .ref 16, .ref 41, .int 0] [.int (-1)] _ _
      refine pm_R_lo pm_M0 (pc' := 1348) (pm_q0_16 (Nat.le_of_ble_eq_true rfl)) rfl rfl ?_
      refine pm_R_lo pm_M0 (pc' := 1349) (pm_q0_16 (Nat.le_of_ble_eq_true rfl)) rfl rfl ?_
      refine pm_R_lo pm_M0 (pc' := 1350) (pm_q0_16 (Nat.le_of_ble_eq_true rfl)) rfl rfl ?_
      refine pm_R_op pm_M0 (pc' := 1351) (st' := [.int 1, .int 0, .ref 0, .ref 41, .int (-1)]) (pm_q0_16 (Nat.le_of_ble_eq_true rfl)) rfl rfl ?_
      refine pm_R_op pm_M0 (pc' := 1352) (st' := [.int 1, .ref 0, .ref 41, .int (-1)]) (pm_q0_16 (Nat.le_of_ble_eq_true rfl)) rfl rfl ?_
      refine pm_R_iald pm_M0 (pc' := 1353) (v := x1) (pm_q0_16 (Nat.le_of_ble_eq_true rfl)) (hh 0 (Nat.le_of_ble_eq_true rfl)) (Nat.le_of_ble_eq_true rfl) rfl hx1 rfl ?_
      refine pm_R_lo pm_M0 (pc' := 1354) (pm_q0_16 (Nat.le_of_ble_eq_true rfl)) rfl rfl ?_
      refine pm_R_lo pm_M0 (pc' := 1355) (pm_q0_16 (Nat.le_of_ble_eq_true rfl)) rfl rfl ?_
      refine pm_R_op pm_M0 (pc' := 1356) (st' := [.int 2, .int 0, .ref 0, .int x1, .ref 41, .int (-1)]) (pm_q0_16 (Nat.le_of_ble_eq_true rfl)) rfl rfl ?_
      refine pm_R_op pm_M0 (pc' := 1357) (st' := [.int 2, .ref 0, .int x1, .ref 41, .int (-1)]) (pm_q0_16 (Nat.le_of_ble_eq_true rfl)) rfl rfl ?_
      refine pm_R_iald pm_M0 (pc' := 1358) (v := x2) (pm_q0_16 (Nat.le_of_ble_eq_true rfl)) (hh 0 (Nat.le_of_ble_eq_true rfl)) (Nat.le_of_ble_eq_true rfl) rfl hx2 rfl ?_
      refine pm_R_lo pm_M0 (pc' := 1359) (pm_q0_16 (Nat.le_of_ble_eq_true rfl)) rfl rfl ?_
      refine pm_R_lo pm_M0 (pc' := 1360) (pm_q0_16 (Nat.le_of_ble_eq_true rfl)) rfl rfl ?_
      refine pm_R_op pm_M0 (pc' := 1361) (st' := [.int 3, .int 0, .ref 0, .int x2, .int x1, .ref 41, .int (-1)]) (pm_q0_16 (Nat.le_of_ble_eq_true rfl)) rfl rfl ?_
      refine pm_R_op pm_M0 (pc' := 1362) (st' := [.int 3, .ref 0, .int x2, .int x1, .ref 41, .int (-1)]) (pm_q0_16 (Nat.le_of_ble_eq_true rfl)) rfl rfl ?_
      refine pm_R_iald pm_M0 (pc' := 1363) (v := x3) (pm_q0_16 (Nat.le_of_ble_eq_true rfl)) (hh 0 (Nat.le_of_ble_eq_true rfl)) (Nat.le_of_ble_eq_true rfl) rfl hx3 rfl ?_
      refine pm_R_cv pm_M0 (pc' := 1366) (a := 41) (ra := [.int x3, .int x2, .int x1]) (rest := [.int (-1)]) (ls' := [.ref 41, .int x1, .int x2, .int x3, pm_no, pm_no, pm_no, pm_no, pm_no]) (pm_q0_16 (Nat.le_of_ble_eq_true rfl)) rfl (Or.inl rfl) pm_M264 (hh 41 (Nat.le_of_ble_eq_true rfl)) rfl (Nat.le_of_ble_eq_true rfl) (Nat.le_of_ble_eq_true rfl) rfl rfl (Nat.le_of_ble_eq_true rfl) rfl rfl ?_
      refine pm_R_lo pm_M264 (pc' := 1) rfl rfl rfl ?_
      refine pm_R_op pm_M264 (pc' := 2) (st' := [.int 0, .ref 41]) rfl rfl rfl ?_
      refine pm_R_put pm_M264 (pc' := 5) (fs' := [.int 0, .ref 42, .ref 43, .ref 44, .ref 45, .ref 46, .ref 47, .ref 48, .ref 49, .ref 50, .int 0, .int 0, .int 0, .int 0, .int 0, .long 0, .int 0, .int 0, .int 0, .ref 51, .ref 52, .int 0, .int 0, .int 0, .int 0, .ref 53, .int 0, .int 0, .ref 54, .ref 55, .ref 56, .int 0, .ref 57, .ref 58, .ref 59, .ref 60, .ref 61, .ref 62, .ref 63, .ref 64, .ref 65, .ref 66, .int 0, .int 0, .int 0, .ref 67, .ref 68, .int 0, .ref 69, .int 0, .int 0, .ref 70, .ref 71]) rfl rfl rfl (hh 41 (Nat.le_of_ble_eq_true rfl)) (Nat.le_of_ble_eq_true rfl) (Nat.le_of_ble_eq_true rfl) (Nat.le_of_ble_eq_true rfl) rfl (Or.inl rfl) rfl rfl ?_
      refine pm_R_lo pm_M264 (pc' := 6) rfl rfl rfl ?_
      refine pm_R_op pm_M264 (pc' := 7) (st' := [.int 0, .ref 41]) rfl rfl rfl ?_
      refine pm_R_lo pm_M264 (pc' := 8) rfl rfl rfl ?_
      refine pm_R_cv pm_M264 (pc' := 11) (a := 41) (ra := [.int x1, .int 0]) (rest := []) (ls' := [.ref 41, .int 0, .int x1]) rfl rfl (Or.inl rfl) pm_M177 rfl rfl (Nat.le_of_ble_eq_true rfl) (Nat.le_of_ble_eq_true rfl) rfl rfl (Nat.le_of_ble_eq_true rfl) rfl rfl ?_
      refine pm_R_lo pm_M177 (pc' := 1) rfl rfl rfl ?_
      refine pm_R_op pm_M177 (pc' := 2) (st' := [.int 0, .int x1]) rfl rfl rfl ?_
      refine pm_R_lo pm_M177 (pc' := 3) rfl rfl rfl ?_
      refine pm_R_get pm_M177 (pc' := 6) (v := .ref 46) rfl rfl rfl (Nat.le_of_ble_eq_true rfl) (Nat.le_of_ble_eq_true rfl) rfl rfl ?_
      refine pm_R_lo pm_M177 (pc' := 7) rfl rfl rfl ?_
      refine pm_R_iald pm_M177 (pc' := 8) (v := 0) rfl (hh 46 (Nat.le_of_ble_eq_true rfl)) (Nat.le_of_ble_eq_true rfl) rfl rfl rfl ?_
      refine pm_R_op pm_M177 (pc' := 9) (st' := [.int 1, .int 0, .int 0, .int x1]) rfl rfl rfl ?_
      refine pm_R_op pm_M177 (pc' := 10) (st' := [.int (-1), .int 0, .int x1]) rfl rfl rfl ?_
      refine pm_R_cs pm_M177 (pc' := 13) (ra := [.int (-1), .int 0, .int x1]) (rest := []) (ls' := [.int x1, .int 0, .int (-1)]) rfl rfl (Or.inl rfl) pm_M174 rfl rfl (Nat.le_of_ble_eq_true rfl) rfl rfl ?_
      refine pm_R_lo pm_M174 (pc' := 1) rfl rfl rfl ?_
      refine pm_R_lo pm_M174 (pc' := 2) rfl rfl rfl ?_
      refine pm_R_icmp pm_M174 (t := 14) (pc' := 5) rfl rfl rfl (fun c_3 => ?_) (fun c_3 => by exact absurd c_1 c_3)
      refine pm_R_op pm_M174 (pc' := 15) (st' := [.int 0]) rfl rfl rfl ?_
      refine pm_R_ret pm_M174 (r := some (.int 0)) rfl rfl ?_
      show pm_R _ 177 13 [.ref 41, .int 0, .int x1] [.int 0] _ _
      refine pm_R_ret pm_M177 (r := some (.int 0)) rfl rfl ?_
      show pm_R _ 264 11 [.ref 41, .int x1, .int x2, .int x3, pm_no, pm_no, pm_no, pm_no, pm_no] [.int 0] _ _
      refine pm_R_br pm_M264 (pc' := 24) (st' := []) rfl rfl ?_
      refine pm_R_op pm_M264 (pc' := 25) (st' := [.int (-1)]) rfl rfl rfl ?_
      refine pm_R_ret pm_M264 (r := some (.int (-1))) rfl rfl ?_
      show pm_R _ 0 1366 [.ref 0, .ref 16, .ref 41, .int 0] [.int (-1), .int (-1)] _ _
      refine pm_R_br pm_M0 (pc' := 2121) (st' := []) (pm_q0_16 (Nat.le_of_ble_eq_true rfl)) rfl ?_
      exact p1_tail (hh 0 (Nat.le_of_ble_eq_true rfl)) (Nat.le_of_ble_eq_true rfl) (Nat.le_of_ble_eq_true rfl) (Nat.le_of_ble_eq_true rfl)
    · refine pm_R_lo pm_M139 (pc' := 5) rfl rfl rfl ?_
      refine pm_R_lo pm_M139 (pc' := 6) rfl rfl rfl ?_
      refine pm_R_get pm_M139 (pc' := 9) (v := .ref 17) rfl rfl (hh 16 (Nat.le_of_ble_eq_true rfl)) (Nat.le_of_ble_eq_true rfl) (Nat.le_of_ble_eq_true rfl) rfl rfl ?_
      refine pm_R_get pm_M139 (pc' := 12) (v := .ref 23) rfl rfl (hh 17 (Nat.le_of_ble_eq_true rfl)) (Nat.le_of_ble_eq_true rfl) (Nat.le_of_ble_eq_true rfl) rfl rfl ?_
      refine pm_R_op pm_M139 (pc' := 13) (st' := [.int 2, .ref 23, .int x2]) rfl rfl rfl ?_
      refine pm_R_iald pm_M139 (pc' := 14) (v := 0) rfl (hh 23 (Nat.le_of_ble_eq_true rfl)) (Nat.le_of_ble_eq_true rfl) rfl rfl rfl ?_
      refine pm_R_icmp pm_M139 (t := 21) (pc' := 17) rfl rfl rfl (fun c_4 => by exact absurd c_4 c_2) (fun c_4 => ?_)
      refine pm_R_op pm_M139 (pc' := 18) (st' := [.null]) rfl rfl rfl ?_
      refine pm_R_br pm_M139 (pc' := 30) rfl rfl ?_
      refine pm_R_ret pm_M139 (r := some (.null)) rfl rfl ?_
      show pm_R _ 150 12 [.ref 16, .int x1, .int x2, .int x3, .null, pm_no, pm_no, pm_no, pm_no, pm_no] [.null] _ _
      refine pm_R_lo pm_M150 (pc' := 14) (ls' := [.ref 16, .int x1, .int x2, .int x3, .null, .null, pm_no, pm_no, pm_no, pm_no]) (st' := []) rfl rfl rfl ?_
      refine pm_R_lo pm_M150 (pc' := 16) rfl rfl rfl ?_
      refine pm_R_br pm_M150 (pc' := 33) rfl rfl ?_
      refine pm_R_op pm_M150 (pc' := 34) (st' := [.int (-1)]) rfl rfl rfl ?_
      refine pm_R_ret pm_M150 (r := some (.int (-1))) rfl rfl ?_
      show pm_R _ 0 1347 [.ref 0, .ref 16, .ref 41, .int 0] [.int (-1)] _ _
      refine pm_R_lo pm_M0 (pc' := 1348) (pm_q0_16 (Nat.le_of_ble_eq_true rfl)) rfl rfl ?_
      refine pm_R_lo pm_M0 (pc' := 1349) (pm_q0_16 (Nat.le_of_ble_eq_true rfl)) rfl rfl ?_
      refine pm_R_lo pm_M0 (pc' := 1350) (pm_q0_16 (Nat.le_of_ble_eq_true rfl)) rfl rfl ?_
      refine pm_R_op pm_M0 (pc' := 1351) (st' := [.int 1, .int 0, .ref 0, .ref 41, .int (-1)]) (pm_q0_16 (Nat.le_of_ble_eq_true rfl)) rfl rfl ?_
      refine pm_R_op pm_M0 (pc' := 1352) (st' := [.int 1, .ref 0, .ref 41, .int (-1)]) (pm_q0_16 (Nat.le_of_ble_eq_true rfl)) rfl rfl ?_
      refine pm_R_iald pm_M0 (pc' := 1353) (v := x1) (pm_q0_16 (Nat.le_of_ble_eq_true rfl)) (hh 0 (Nat.le_of_ble_eq_true rfl)) (Nat.le_of_ble_eq_true rfl) rfl hx1 rfl ?_
      refine pm_R_lo pm_M0 (pc' := 1354) (pm_q0_16 (Nat.le_of_ble_eq_true rfl)) rfl rfl ?_
      refine pm_R_lo pm_M0 (pc' := 1355) (pm_q0_16 (Nat.le_of_ble_eq_true rfl)) rfl rfl ?_
      refine pm_R_op pm_M0 (pc' := 1356) (st' := [.int 2, .int 0, .ref 0, .int x1, .ref 41, .int (-1)]) (pm_q0_16 (Nat.le_of_ble_eq_true rfl)) rfl rfl ?_
      refine pm_R_op pm_M0 (pc' := 1357) (st' := [.int 2, .ref 0, .int x1, .ref 41, .int (-1)]) (pm_q0_16 (Nat.le_of_ble_eq_true rfl)) rfl rfl ?_
      refine pm_R_iald pm_M0 (pc' := 1358) (v := x2) (pm_q0_16 (Nat.le_of_ble_eq_true rfl)) (hh 0 (Nat.le_of_ble_eq_true rfl)) (Nat.le_of_ble_eq_true rfl) rfl hx2 rfl ?_
      refine pm_R_lo pm_M0 (pc' := 1359) (pm_q0_16 (Nat.le_of_ble_eq_true rfl)) rfl rfl ?_
      refine pm_R_lo pm_M0 (pc' := 1360) (pm_q0_16 (Nat.le_of_ble_eq_true rfl)) rfl rfl ?_
      refine pm_R_op pm_M0 (pc' := 1361) (st' := [.int 3, .int 0, .ref 0, .int x2, .int x1, .ref 41, .int (-1)]) (pm_q0_16 (Nat.le_of_ble_eq_true rfl)) rfl rfl ?_
      refine pm_R_op pm_M0 (pc' := 1362) (st' := [.int 3, .ref 0, .int x2, .int x1, .ref 41, .int (-1)]) (pm_q0_16 (Nat.le_of_ble_eq_true rfl)) rfl rfl ?_
      refine pm_R_iald pm_M0 (pc' := 1363) (v := x3) (pm_q0_16 (Nat.le_of_ble_eq_true rfl)) (hh 0 (Nat.le_of_ble_eq_true rfl)) (Nat.le_of_ble_eq_true rfl) rfl hx3 rfl ?_
      refine pm_R_cv pm_M0 (pc' := 1366) (a := 41) (ra := [.int x3, .int x2, .int x1]) (rest := [.int (-1)]) (ls' := [.ref 41, .int x1, .int x2, .int x3, pm_no, pm_no, pm_no, pm_no, pm_no]) (pm_q0_16 (Nat.le_of_ble_eq_true rfl)) rfl (Or.inl rfl) pm_M264 (hh 41 (Nat.le_of_ble_eq_true rfl)) rfl (Nat.le_of_ble_eq_true rfl) (Nat.le_of_ble_eq_true rfl) rfl rfl (Nat.le_of_ble_eq_true rfl) rfl rfl ?_
      refine pm_R_lo pm_M264 (pc' := 1) rfl rfl rfl ?_
      refine pm_R_op pm_M264 (pc' := 2) (st' := [.int 0, .ref 41]) rfl rfl rfl ?_
      refine pm_R_put pm_M264 (pc' := 5) (fs' := [.int 0, .ref 42, .ref 43, .ref 44, .ref 45, .ref 46, .ref 47, .ref 48, .ref 49, .ref 50, .int 0, .int 0, .int 0, .int 0, .int 0, .long 0, .int 0, .int 0, .int 0, .ref 51, .ref 52, .int 0, .int 0, .int 0, .int 0, .ref 53, .int 0, .int 0, .ref 54, .ref 55, .ref 56, .int 0, .ref 57, .ref 58, .ref 59, .ref 60, .ref 61, .ref 62, .ref 63, .ref 64, .ref 65, .ref 66, .int 0, .int 0, .int 0, .ref 67, .ref 68, .int 0, .ref 69, .int 0, .int 0, .ref 70, .ref 71]) rfl rfl rfl (hh 41 (Nat.le_of_ble_eq_true rfl)) (Nat.le_of_ble_eq_true rfl) (Nat.le_of_ble_eq_true rfl) (Nat.le_of_ble_eq_true rfl) rfl (Or.inl rfl) rfl rfl ?_
      refine pm_R_lo pm_M264 (pc' := 6) rfl rfl rfl ?_
      refine pm_R_op pm_M264 (pc' := 7) (st' := [.int 0, .ref 41]) rfl rfl rfl ?_
      refine pm_R_lo pm_M264 (pc' := 8) rfl rfl rfl ?_
      refine pm_R_cv pm_M264 (pc' := 11) (a := 41) (ra := [.int x1, .int 0]) (rest := []) (ls' := [.ref 41, .int 0, .int x1]) rfl rfl (Or.inl rfl) pm_M177 rfl rfl (Nat.le_of_ble_eq_true rfl) (Nat.le_of_ble_eq_true rfl) rfl rfl (Nat.le_of_ble_eq_true rfl) rfl rfl ?_
      refine pm_R_lo pm_M177 (pc' := 1) rfl rfl rfl ?_
      refine pm_R_op pm_M177 (pc' := 2) (st' := [.int 0, .int x1]) rfl rfl rfl ?_
      refine pm_R_lo pm_M177 (pc' := 3) rfl rfl rfl ?_
      refine pm_R_get pm_M177 (pc' := 6) (v := .ref 46) rfl rfl rfl (Nat.le_of_ble_eq_true rfl) (Nat.le_of_ble_eq_true rfl) rfl rfl ?_
      refine pm_R_lo pm_M177 (pc' := 7) rfl rfl rfl ?_
      refine pm_R_iald pm_M177 (pc' := 8) (v := 0) rfl (hh 46 (Nat.le_of_ble_eq_true rfl)) (Nat.le_of_ble_eq_true rfl) rfl rfl rfl ?_
      refine pm_R_op pm_M177 (pc' := 9) (st' := [.int 1, .int 0, .int 0, .int x1]) rfl rfl rfl ?_
      refine pm_R_op pm_M177 (pc' := 10) (st' := [.int (-1), .int 0, .int x1]) rfl rfl rfl ?_
      refine pm_R_cs pm_M177 (pc' := 13) (ra := [.int (-1), .int 0, .int x1]) (rest := []) (ls' := [.int x1, .int 0, .int (-1)]) rfl rfl (Or.inl rfl) pm_M174 rfl rfl (Nat.le_of_ble_eq_true rfl) rfl rfl ?_
      refine pm_R_lo pm_M174 (pc' := 1) rfl rfl rfl ?_
      refine pm_R_lo pm_M174 (pc' := 2) rfl rfl rfl ?_
      refine pm_R_icmp pm_M174 (t := 14) (pc' := 5) rfl rfl rfl (fun c_5 => ?_) (fun c_5 => by exact absurd c_1 c_5)
      refine pm_R_op pm_M174 (pc' := 15) (st' := [.int 0]) rfl rfl rfl ?_
      refine pm_R_ret pm_M174 (r := some (.int 0)) rfl rfl ?_
      show pm_R _ 177 13 [.ref 41, .int 0, .int x1] [.int 0] _ _
      refine pm_R_ret pm_M177 (r := some (.int 0)) rfl rfl ?_
      show pm_R _ 264 11 [.ref 41, .int x1, .int x2, .int x3, pm_no, pm_no, pm_no, pm_no, pm_no] [.int 0] _ _
      refine pm_R_br pm_M264 (pc' := 24) (st' := []) rfl rfl ?_
      refine pm_R_op pm_M264 (pc' := 25) (st' := [.int (-1)]) rfl rfl rfl ?_
      refine pm_R_ret pm_M264 (r := some (.int (-1))) rfl rfl ?_
      show pm_R _ 0 1366 [.ref 0, .ref 16, .ref 41, .int 0] [.int (-1), .int (-1)] _ _
      refine pm_R_br pm_M0 (pc' := 2121) (st' := []) (pm_q0_16 (Nat.le_of_ble_eq_true rfl)) rfl ?_
      exact p1_tail (hh 0 (Nat.le_of_ble_eq_true rfl)) (Nat.le_of_ble_eq_true rfl) (Nat.le_of_ble_eq_true rfl) (Nat.le_of_ble_eq_true rfl)
  · refine pm_R_lo pm_M62 (pc' := 5) rfl rfl rfl ?_
    refine pm_R_lo pm_M62 (pc' := 6) rfl rfl rfl ?_
    refine pm_R_get pm_M62 (pc' := 9) (v := .ref 17) rfl rfl (hh 16 (Nat.le_of_ble_eq_true rfl)) (Nat.le_of_ble_eq_true rfl) (Nat.le_of_ble_eq_true rfl) rfl rfl ?_
    refine pm_R_get pm_M62 (pc' := 12) (v := .ref 23) rfl rfl (hh 17 (Nat.le_of_ble_eq_true rfl)) (Nat.le_of_ble_eq_true rfl) (Nat.le_of_ble_eq_true rfl) rfl rfl ?_
    refine pm_R_op pm_M62 (pc' := 13) (st' := [.int 0, .ref 23, .int x1]) rfl rfl rfl ?_
    refine pm_R_iald pm_M62 (pc' := 14) (v := 0) rfl (hh 23 (Nat.le_of_ble_eq_true rfl)) (Nat.le_of_ble_eq_true rfl) rfl rfl rfl ?_
    refine pm_R_icmp pm_M62 (t := 21) (pc' := 17) rfl rfl rfl (fun c_6 => by exact absurd c_6 c_1) (fun c_6 => ?_)
    refine pm_R_op pm_M62 (pc' := 18) (st' := [.null]) rfl rfl rfl ?_
    refine pm_R_br pm_M62 (pc' := 30) rfl rfl ?_
    refine pm_R_ret pm_M62 (r := some (.null)) rfl rfl ?_
    show pm_R _ 150 5 [.ref 16, .int x1, .int x2, .int x3, pm_no, pm_no, pm_no, pm_no, pm_no, pm_no] [.null] _ _
    refine pm_R_lo pm_M150 (pc' := 7) (ls' := [.ref 16, .int x1, .int x2, .int x3, .null, pm_no, pm_no, pm_no, pm_no, pm_no]) (st' := []) rfl rfl rfl ?_
    refine pm_R_lo pm_M150 (pc' := 8) rfl rfl rfl ?_
    refine pm_R_lo pm_M150 (pc' := 9) rfl rfl rfl ?_
    refine pm_R_cv pm_M150 (pc' := 12) (a := 16) (ra := [.int x2]) (rest := []) (ls' := [.ref 16, .int x2]) rfl rfl (Or.inl rfl) pm_M139 (hh 16 (Nat.le_of_ble_eq_true rfl)) rfl (Nat.le_of_ble_eq_true rfl) (Nat.le_of_ble_eq_true rfl) rfl rfl (Nat.le_of_ble_eq_true rfl) rfl rfl ?_
    refine pm_R_lo pm_M139 (pc' := 1) rfl rfl rfl ?_
    refine pm_R_ifc pm_M139 (t := 17) (pc' := 4) rfl rfl rfl (fun c_7 => ?_) (fun c_7 => ?_)
    · refine pm_R_op pm_M139 (pc' := 18) (st' := [.null]) rfl rfl rfl ?_
      refine pm_R_br pm_M139 (pc' := 30) rfl rfl ?_
      refine pm_R_ret pm_M139 (r := some (.null)) rfl rfl ?_
      show pm_R _ 150 12 [.ref 16, .int x1, .int x2, .int x3, .null, pm_no, pm_no, pm_no, pm_no, pm_no] [.null] _ _
      refine pm_R_lo pm_M150 (pc' := 14) (ls' := [.ref 16, .int x1, .int x2, .int x3, .null, .null, pm_no, pm_no, pm_no, pm_no]) (st' := []) rfl rfl rfl ?_
      refine pm_R_lo pm_M150 (pc' := 16) rfl rfl rfl ?_
      refine pm_R_br pm_M150 (pc' := 33) rfl rfl ?_
      refine pm_R_op pm_M150 (pc' := 34) (st' := [.int (-1)]) rfl rfl rfl ?_
      refine pm_R_ret pm_M150 (r := some (.int (-1))) rfl rfl ?_
      show pm_R _ 0 1347 [.ref 0, .ref 16, .ref 41, .int 0] [.int (-1)] _ _
      refine pm_R_lo pm_M0 (pc' := 1348) (pm_q0_16 (Nat.le_of_ble_eq_true rfl)) rfl rfl ?_
      refine pm_R_lo pm_M0 (pc' := 1349) (pm_q0_16 (Nat.le_of_ble_eq_true rfl)) rfl rfl ?_
      refine pm_R_lo pm_M0 (pc' := 1350) (pm_q0_16 (Nat.le_of_ble_eq_true rfl)) rfl rfl ?_
      refine pm_R_op pm_M0 (pc' := 1351) (st' := [.int 1, .int 0, .ref 0, .ref 41, .int (-1)]) (pm_q0_16 (Nat.le_of_ble_eq_true rfl)) rfl rfl ?_
      refine pm_R_op pm_M0 (pc' := 1352) (st' := [.int 1, .ref 0, .ref 41, .int (-1)]) (pm_q0_16 (Nat.le_of_ble_eq_true rfl)) rfl rfl ?_
      refine pm_R_iald pm_M0 (pc' := 1353) (v := x1) (pm_q0_16 (Nat.le_of_ble_eq_true rfl)) (hh 0 (Nat.le_of_ble_eq_true rfl)) (Nat.le_of_ble_eq_true rfl) rfl hx1 rfl ?_
      refine pm_R_lo pm_M0 (pc' := 1354) (pm_q0_16 (Nat.le_of_ble_eq_true rfl)) rfl rfl ?_
      refine pm_R_lo pm_M0 (pc' := 1355) (pm_q0_16 (Nat.le_of_ble_eq_true rfl)) rfl rfl ?_
      refine pm_R_op pm_M0 (pc' := 1356) (st' := [.int 2, .int 0, .ref 0, .int x1, .ref 41, .int (-1)]) (pm_q0_16 (Nat.le_of_ble_eq_true rfl)) rfl rfl ?_
      refine pm_R_op pm_M0 (pc' := 1357) (st' := [.int 2, .ref 0, .int x1, .ref 41, .int (-1)]) (pm_q0_16 (Nat.le_of_ble_eq_true rfl)) rfl rfl ?_
      refine pm_R_iald pm_M0 (pc' := 1358) (v := x2) (pm_q0_16 (Nat.le_of_ble_eq_true rfl)) (hh 0 (Nat.le_of_ble_eq_true rfl)) (Nat.le_of_ble_eq_true rfl) rfl hx2 rfl ?_
      refine pm_R_lo pm_M0 (pc' := 1359) (pm_q0_16 (Nat.le_of_ble_eq_true rfl)) rfl rfl ?_
      refine pm_R_lo pm_M0 (pc' := 1360) (pm_q0_16 (Nat.le_of_ble_eq_true rfl)) rfl rfl ?_
      refine pm_R_op pm_M0 (pc' := 1361) (st' := [.int 3, .int 0, .ref 0, .int x2, .int x1, .ref 41, .int (-1)]) (pm_q0_16 (Nat.le_of_ble_eq_true rfl)) rfl rfl ?_
      refine pm_R_op pm_M0 (pc' := 1362) (st' := [.int 3, .ref 0, .int x2, .int x1, .ref 41, .int (-1)]) (pm_q0_16 (Nat.le_of_ble_eq_true rfl)) rfl rfl ?_
      refine pm_R_iald pm_M0 (pc' := 1363) (v := x3) (pm_q0_16 (Nat.le_of_ble_eq_true rfl)) (hh 0 (Nat.le_of_ble_eq_true rfl)) (Nat.le_of_ble_eq_true rfl) rfl hx3 rfl ?_
      refine pm_R_cv pm_M0 (pc' := 1366) (a := 41) (ra := [.int x3, .int x2, .int x1]) (rest := [.int (-1)]) (ls' := [.ref 41, .int x1, .int x2, .int x3, pm_no, pm_no, pm_no, pm_no, pm_no]) (pm_q0_16 (Nat.le_of_ble_eq_true rfl)) rfl (Or.inl rfl) pm_M264 (hh 41 (Nat.le_of_ble_eq_true rfl)) rfl (Nat.le_of_ble_eq_true rfl) (Nat.le_of_ble_eq_true rfl) rfl rfl (Nat.le_of_ble_eq_true rfl) rfl rfl ?_
      refine pm_R_lo pm_M264 (pc' := 1) rfl rfl rfl ?_
      refine pm_R_op pm_M264 (pc' := 2) (st' := [.int 0, .ref 41]) rfl rfl rfl ?_
      refine pm_R_put pm_M264 (pc' := 5) (fs' := [.int 0, .ref 42, .ref 43, .ref 44, .ref 45, .ref 46, .ref 47, .ref 48, .ref 49, .ref 50, .int 0, .int 0, .int 0, .int 0, .int 0, .long 0, .int 0, .int 0, .int 0, .ref 51, .ref 52, .int 0, .int 0, .int 0, .int 0, .ref 53, .int 0, .int 0, .ref 54, .ref 55, .ref 56, .int 0, .ref 57, .ref 58, .ref 59, .ref 60, .ref 61, .ref 62, .ref 63, .ref 64, .ref 65, .ref 66, .int 0, .int 0, .int 0, .ref 67, .ref 68, .int 0, .ref 69, .int 0, .int 0, .ref 70, .ref 71]) rfl rfl rfl (hh 41 (Nat.le_of_ble_eq_true rfl)) (Nat.le_of_ble_eq_true rfl) (Nat.le_of_ble_eq_true rfl) (Nat.le_of_ble_eq_true rfl) rfl (Or.inl rfl) rfl rfl ?_
      refine pm_R_lo pm_M264 (pc' := 6) rfl rfl rfl ?_
      refine pm_R_op pm_M264 (pc' := 7) (st' := [.int 0, .ref 41]) rfl rfl rfl ?_
      refine pm_R_lo pm_M264 (pc' := 8) rfl rfl rfl ?_
      refine pm_R_cv pm_M264 (pc' := 11) (a := 41) (ra := [.int x1, .int 0]) (rest := []) (ls' := [.ref 41, .int 0, .int x1]) rfl rfl (Or.inl rfl) pm_M177 rfl rfl (Nat.le_of_ble_eq_true rfl) (Nat.le_of_ble_eq_true rfl) rfl rfl (Nat.le_of_ble_eq_true rfl) rfl rfl ?_
      refine pm_R_lo pm_M177 (pc' := 1) rfl rfl rfl ?_
      refine pm_R_op pm_M177 (pc' := 2) (st' := [.int 0, .int x1]) rfl rfl rfl ?_
      refine pm_R_lo pm_M177 (pc' := 3) rfl rfl rfl ?_
      refine pm_R_get pm_M177 (pc' := 6) (v := .ref 46) rfl rfl rfl (Nat.le_of_ble_eq_true rfl) (Nat.le_of_ble_eq_true rfl) rfl rfl ?_
      refine pm_R_lo pm_M177 (pc' := 7) rfl rfl rfl ?_
      refine pm_R_iald pm_M177 (pc' := 8) (v := 0) rfl (hh 46 (Nat.le_of_ble_eq_true rfl)) (Nat.le_of_ble_eq_true rfl) rfl rfl rfl ?_
      refine pm_R_op pm_M177 (pc' := 9) (st' := [.int 1, .int 0, .int 0, .int x1]) rfl rfl rfl ?_
      refine pm_R_op pm_M177 (pc' := 10) (st' := [.int (-1), .int 0, .int x1]) rfl rfl rfl ?_
      refine pm_R_cs pm_M177 (pc' := 13) (ra := [.int (-1), .int 0, .int x1]) (rest := []) (ls' := [.int x1, .int 0, .int (-1)]) rfl rfl (Or.inl rfl) pm_M174 rfl rfl (Nat.le_of_ble_eq_true rfl) rfl rfl ?_
      refine pm_R_lo pm_M174 (pc' := 1) rfl rfl rfl ?_
      refine pm_R_lo pm_M174 (pc' := 2) rfl rfl rfl ?_
      refine pm_R_icmp pm_M174 (t := 14) (pc' := 5) rfl rfl rfl (fun c_8 => by exact absurd c_8 c_1) (fun c_8 => ?_)
      refine pm_R_lo pm_M174 (pc' := 6) rfl rfl rfl ?_
      refine pm_R_lo pm_M174 (pc' := 7) rfl rfl rfl ?_
      refine pm_R_icmp pm_M174 (t := 14) (pc' := 10) rfl rfl rfl (fun c_9 => ?_) (fun c_9 => by have z0 : ((-1) : Int32).toInt = -1 := (by decide); have z1 : ((0) : Int32).toInt = 0 := (by decide); have q0 := (Int32.le_iff_toInt_le.mp (Int32.not_lt.mp c_1)); have q1 := (Int32.le_iff_toInt_le.mp (Int32.not_lt.mp c_9)); exfalso; omega)
      refine pm_R_op pm_M174 (pc' := 15) (st' := [.int 0]) rfl rfl rfl ?_
      refine pm_R_ret pm_M174 (r := some (.int 0)) rfl rfl ?_
      show pm_R _ 177 13 [.ref 41, .int 0, .int x1] [.int 0] _ _
      refine pm_R_ret pm_M177 (r := some (.int 0)) rfl rfl ?_
      show pm_R _ 264 11 [.ref 41, .int x1, .int x2, .int x3, pm_no, pm_no, pm_no, pm_no, pm_no] [.int 0] _ _
      refine pm_R_br pm_M264 (pc' := 24) (st' := []) rfl rfl ?_
      refine pm_R_op pm_M264 (pc' := 25) (st' := [.int (-1)]) rfl rfl rfl ?_
      refine pm_R_ret pm_M264 (r := some (.int (-1))) rfl rfl ?_
      show pm_R _ 0 1366 [.ref 0, .ref 16, .ref 41, .int 0] [.int (-1), .int (-1)] _ _
      refine pm_R_br pm_M0 (pc' := 2121) (st' := []) (pm_q0_16 (Nat.le_of_ble_eq_true rfl)) rfl ?_
      exact p1_tail (hh 0 (Nat.le_of_ble_eq_true rfl)) (Nat.le_of_ble_eq_true rfl) (Nat.le_of_ble_eq_true rfl) (Nat.le_of_ble_eq_true rfl)
    · refine pm_R_lo pm_M139 (pc' := 5) rfl rfl rfl ?_
      refine pm_R_lo pm_M139 (pc' := 6) rfl rfl rfl ?_
      refine pm_R_get pm_M139 (pc' := 9) (v := .ref 17) rfl rfl (hh 16 (Nat.le_of_ble_eq_true rfl)) (Nat.le_of_ble_eq_true rfl) (Nat.le_of_ble_eq_true rfl) rfl rfl ?_
      refine pm_R_get pm_M139 (pc' := 12) (v := .ref 23) rfl rfl (hh 17 (Nat.le_of_ble_eq_true rfl)) (Nat.le_of_ble_eq_true rfl) (Nat.le_of_ble_eq_true rfl) rfl rfl ?_
      refine pm_R_op pm_M139 (pc' := 13) (st' := [.int 2, .ref 23, .int x2]) rfl rfl rfl ?_
      refine pm_R_iald pm_M139 (pc' := 14) (v := 0) rfl (hh 23 (Nat.le_of_ble_eq_true rfl)) (Nat.le_of_ble_eq_true rfl) rfl rfl rfl ?_
      refine pm_R_icmp pm_M139 (t := 21) (pc' := 17) rfl rfl rfl (fun c_10 => by exact absurd c_10 c_7) (fun c_10 => ?_)
      refine pm_R_op pm_M139 (pc' := 18) (st' := [.null]) rfl rfl rfl ?_
      refine pm_R_br pm_M139 (pc' := 30) rfl rfl ?_
      refine pm_R_ret pm_M139 (r := some (.null)) rfl rfl ?_
      show pm_R _ 150 12 [.ref 16, .int x1, .int x2, .int x3, .null, pm_no, pm_no, pm_no, pm_no, pm_no] [.null] _ _
      refine pm_R_lo pm_M150 (pc' := 14) (ls' := [.ref 16, .int x1, .int x2, .int x3, .null, .null, pm_no, pm_no, pm_no, pm_no]) (st' := []) rfl rfl rfl ?_
      refine pm_R_lo pm_M150 (pc' := 16) rfl rfl rfl ?_
      refine pm_R_br pm_M150 (pc' := 33) rfl rfl ?_
      refine pm_R_op pm_M150 (pc' := 34) (st' := [.int (-1)]) rfl rfl rfl ?_
      refine pm_R_ret pm_M150 (r := some (.int (-1))) rfl rfl ?_
      show pm_R _ 0 1347 [.ref 0, .ref 16, .ref 41, .int 0] [.int (-1)] _ _
      refine pm_R_lo pm_M0 (pc' := 1348) (pm_q0_16 (Nat.le_of_ble_eq_true rfl)) rfl rfl ?_
      refine pm_R_lo pm_M0 (pc' := 1349) (pm_q0_16 (Nat.le_of_ble_eq_true rfl)) rfl rfl ?_
      refine pm_R_lo pm_M0 (pc' := 1350) (pm_q0_16 (Nat.le_of_ble_eq_true rfl)) rfl rfl ?_
      refine pm_R_op pm_M0 (pc' := 1351) (st' := [.int 1, .int 0, .ref 0, .ref 41, .int (-1)]) (pm_q0_16 (Nat.le_of_ble_eq_true rfl)) rfl rfl ?_
      refine pm_R_op pm_M0 (pc' := 1352) (st' := [.int 1, .ref 0, .ref 41, .int (-1)]) (pm_q0_16 (Nat.le_of_ble_eq_true rfl)) rfl rfl ?_
      refine pm_R_iald pm_M0 (pc' := 1353) (v := x1) (pm_q0_16 (Nat.le_of_ble_eq_true rfl)) (hh 0 (Nat.le_of_ble_eq_true rfl)) (Nat.le_of_ble_eq_true rfl) rfl hx1 rfl ?_
      refine pm_R_lo pm_M0 (pc' := 1354) (pm_q0_16 (Nat.le_of_ble_eq_true rfl)) rfl rfl ?_
      refine pm_R_lo pm_M0 (pc' := 1355) (pm_q0_16 (Nat.le_of_ble_eq_true rfl)) rfl rfl ?_
      refine pm_R_op pm_M0 (pc' := 1356) (st' := [.int 2, .int 0, .ref 0, .int x1, .ref 41, .int (-1)]) (pm_q0_16 (Nat.le_of_ble_eq_true rfl)) rfl rfl ?_
      refine pm_R_op pm_M0 (pc' := 1357) (st' := [.int 2, .ref 0, .int x1, .ref 41, .int (-1)]) (pm_q0_16 (Nat.le_of_ble_eq_true rfl)) rfl rfl ?_
      refine pm_R_iald pm_M0 (pc' := 1358) (v := x2) (pm_q0_16 (Nat.le_of_ble_eq_true rfl)) (hh 0 (Nat.le_of_ble_eq_true rfl)) (Nat.le_of_ble_eq_true rfl) rfl hx2 rfl ?_
      refine pm_R_lo pm_M0 (pc' := 1359) (pm_q0_16 (Nat.le_of_ble_eq_true rfl)) rfl rfl ?_
      refine pm_R_lo pm_M0 (pc' := 1360) (pm_q0_16 (Nat.le_of_ble_eq_true rfl)) rfl rfl ?_
      refine pm_R_op pm_M0 (pc' := 1361) (st' := [.int 3, .int 0, .ref 0, .int x2, .int x1, .ref 41, .int (-1)]) (pm_q0_16 (Nat.le_of_ble_eq_true rfl)) rfl rfl ?_
      refine pm_R_op pm_M0 (pc' := 1362) (st' := [.int 3, .ref 0, .int x2, .int x1, .ref 41, .int (-1)]) (pm_q0_16 (Nat.le_of_ble_eq_true rfl)) rfl rfl ?_
      refine pm_R_iald pm_M0 (pc' := 1363) (v := x3) (pm_q0_16 (Nat.le_of_ble_eq_true rfl)) (hh 0 (Nat.le_of_ble_eq_true rfl)) (Nat.le_of_ble_eq_true rfl) rfl hx3 rfl ?_
      refine pm_R_cv pm_M0 (pc' := 1366) (a := 41) (ra := [.int x3, .int x2, .int x1]) (rest := [.int (-1)]) (ls' := [.ref 41, .int x1, .int x2, .int x3, pm_no, pm_no, pm_no, pm_no, pm_no]) (pm_q0_16 (Nat.le_of_ble_eq_true rfl)) rfl (Or.inl rfl) pm_M264 (hh 41 (Nat.le_of_ble_eq_true rfl)) rfl (Nat.le_of_ble_eq_true rfl) (Nat.le_of_ble_eq_true rfl) rfl rfl (Nat.le_of_ble_eq_true rfl) rfl rfl ?_
      refine pm_R_lo pm_M264 (pc' := 1) rfl rfl rfl ?_
      refine pm_R_op pm_M264 (pc' := 2) (st' := [.int 0, .ref 41]) rfl rfl rfl ?_
      refine pm_R_put pm_M264 (pc' := 5) (fs' := [.int 0, .ref 42, .ref 43, .ref 44, .ref 45, .ref 46, .ref 47, .ref 48, .ref 49, .ref 50, .int 0, .int 0, .int 0, .int 0, .int 0, .long 0, .int 0, .int 0, .int 0, .ref 51, .ref 52, .int 0, .int 0, .int 0, .int 0, .ref 53, .int 0, .int 0, .ref 54, .ref 55, .ref 56, .int 0, .ref 57, .ref 58, .ref 59, .ref 60, .ref 61, .ref 62, .ref 63, .ref 64, .ref 65, .ref 66, .int 0, .int 0, .int 0, .ref 67, .ref 68, .int 0, .ref 69, .int 0, .int 0, .ref 70, .ref 71]) rfl rfl rfl (hh 41 (Nat.le_of_ble_eq_true rfl)) (Nat.le_of_ble_eq_true rfl) (Nat.le_of_ble_eq_true rfl) (Nat.le_of_ble_eq_true rfl) rfl (Or.inl rfl) rfl rfl ?_
      refine pm_R_lo pm_M264 (pc' := 6) rfl rfl rfl ?_
      refine pm_R_op pm_M264 (pc' := 7) (st' := [.int 0, .ref 41]) rfl rfl rfl ?_
      refine pm_R_lo pm_M264 (pc' := 8) rfl rfl rfl ?_
      refine pm_R_cv pm_M264 (pc' := 11) (a := 41) (ra := [.int x1, .int 0]) (rest := []) (ls' := [.ref 41, .int 0, .int x1]) rfl rfl (Or.inl rfl) pm_M177 rfl rfl (Nat.le_of_ble_eq_true rfl) (Nat.le_of_ble_eq_true rfl) rfl rfl (Nat.le_of_ble_eq_true rfl) rfl rfl ?_
      refine pm_R_lo pm_M177 (pc' := 1) rfl rfl rfl ?_
      refine pm_R_op pm_M177 (pc' := 2) (st' := [.int 0, .int x1]) rfl rfl rfl ?_
      refine pm_R_lo pm_M177 (pc' := 3) rfl rfl rfl ?_
      refine pm_R_get pm_M177 (pc' := 6) (v := .ref 46) rfl rfl rfl (Nat.le_of_ble_eq_true rfl) (Nat.le_of_ble_eq_true rfl) rfl rfl ?_
      refine pm_R_lo pm_M177 (pc' := 7) rfl rfl rfl ?_
      refine pm_R_iald pm_M177 (pc' := 8) (v := 0) rfl (hh 46 (Nat.le_of_ble_eq_true rfl)) (Nat.le_of_ble_eq_true rfl) rfl rfl rfl ?_
      refine pm_R_op pm_M177 (pc' := 9) (st' := [.int 1, .int 0, .int 0, .int x1]) rfl rfl rfl ?_
      refine pm_R_op pm_M177 (pc' := 10) (st' := [.int (-1), .int 0, .int x1]) rfl rfl rfl ?_
      refine pm_R_cs pm_M177 (pc' := 13) (ra := [.int (-1), .int 0, .int x1]) (rest := []) (ls' := [.int x1, .int 0, .int (-1)]) rfl rfl (Or.inl rfl) pm_M174 rfl rfl (Nat.le_of_ble_eq_true rfl) rfl rfl ?_
      refine pm_R_lo pm_M174 (pc' := 1) rfl rfl rfl ?_
      refine pm_R_lo pm_M174 (pc' := 2) rfl rfl rfl ?_
      refine pm_R_icmp pm_M174 (t := 14) (pc' := 5) rfl rfl rfl (fun c_11 => by exact absurd c_11 c_1) (fun c_11 => ?_)
      refine pm_R_lo pm_M174 (pc' := 6) rfl rfl rfl ?_
      refine pm_R_lo pm_M174 (pc' := 7) rfl rfl rfl ?_
      refine pm_R_icmp pm_M174 (t := 14) (pc' := 10) rfl rfl rfl (fun c_12 => ?_) (fun c_12 => by have z0 : ((-1) : Int32).toInt = -1 := (by decide); have z1 : ((0) : Int32).toInt = 0 := (by decide); have q0 := (Int32.le_iff_toInt_le.mp (Int32.not_lt.mp c_1)); have q1 := (Int32.le_iff_toInt_le.mp (Int32.not_lt.mp c_12)); exfalso; omega)
      refine pm_R_op pm_M174 (pc' := 15) (st' := [.int 0]) rfl rfl rfl ?_
      refine pm_R_ret pm_M174 (r := some (.int 0)) rfl rfl ?_
      show pm_R _ 177 13 [.ref 41, .int 0, .int x1] [.int 0] _ _
      refine pm_R_ret pm_M177 (r := some (.int 0)) rfl rfl ?_
      show pm_R _ 264 11 [.ref 41, .int x1, .int x2, .int x3, pm_no, pm_no, pm_no, pm_no, pm_no] [.int 0] _ _
      refine pm_R_br pm_M264 (pc' := 24) (st' := []) rfl rfl ?_
      refine pm_R_op pm_M264 (pc' := 25) (st' := [.int (-1)]) rfl rfl rfl ?_
      refine pm_R_ret pm_M264 (r := some (.int (-1))) rfl rfl ?_
      show pm_R _ 0 1366 [.ref 0, .ref 16, .ref 41, .int 0] [.int (-1), .int (-1)] _ _
      refine pm_R_br pm_M0 (pc' := 2121) (st' := []) (pm_q0_16 (Nat.le_of_ble_eq_true rfl)) rfl ?_
      exact p1_tail (hh 0 (Nat.le_of_ble_eq_true rfl)) (Nat.le_of_ble_eq_true rfl) (Nat.le_of_ble_eq_true rfl) (Nat.le_of_ble_eq_true rfl)
