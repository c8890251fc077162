set_option maxRecDepth 100000 in
set_option maxHeartbeats 40000000 in
theorem p1_c0 (xs : Nat → Int32) (f : Nat → pm_E) (hh : ∀ i, i < 72 → f i = pm_fF 7 xs i) (x0 x1 x2 x3 x4 x5 x6 : Int32) (hx0 : xs 0 = x0) (hx1 : xs 1 = x1) (hx2 : xs 2 = x2) (hx3 : xs 3 = x3) (hx4 : xs 4 = x4) (hx5 : xs 5 = x5) (hx6 : xs 6 = x6) : pm_R 100 0 220 [.ref 0, .ref 16, .ref 41, .int 0] [] (72, 52657, f) p1_Q := by
  refine pm_R_lo pm_M0 (pc' := 221) rfl rfl rfl ?_
  refine pm_R_lo pm_M0 (pc' := 222) rfl rfl rfl ?_
  refine pm_R_lo pm_M0 (pc' := 223) rfl rfl rfl ?_
  refine pm_R_op pm_M0 (pc' := 224) (st' := [.int 1, .int 0, .ref 0, .ref 16]) rfl rfl rfl ?_
  refine pm_R_op pm_M0 (pc' := 225) (st' := [.int 1, .ref 0, .ref 16]) rfl rfl rfl ?_
  refine pm_R_iald pm_M0 (pc' := 226) (v := x1) rfl (hh 0 (Nat.le_of_ble_eq_true rfl)) (Nat.le_of_ble_eq_true rfl) rfl hx1 rfl ?_
  refine pm_R_lo pm_M0 (pc' := 227) rfl rfl rfl ?_
  refine pm_R_lo pm_M0 (pc' := 228) rfl rfl rfl ?_
  refine pm_R_op pm_M0 (pc' := 229) (st' := [.int 2, .int 0, .ref 0, .int x1, .ref 16]) rfl rfl rfl ?_
  refine pm_R_op pm_M0 (pc' := 230) (st' := [.int 2, .ref 0, .int x1, .ref 16]) rfl rfl rfl ?_
  refine pm_R_iald pm_M0 (pc' := 231) (v := x2) rfl (hh 0 (Nat.le_of_ble_eq_true rfl)) (Nat.le_of_ble_eq_true rfl) rfl hx2 rfl ?_
  refine pm_R_lo pm_M0 (pc' := 232) rfl rfl rfl ?_
  refine pm_R_lo pm_M0 (pc' := 233) rfl rfl rfl ?_
  refine pm_R_op pm_M0 (pc' := 234) (st' := [.int 3, .int 0, .ref 0, .int x2, .int x1, .ref 16]) rfl rfl rfl ?_
  refine pm_R_op pm_M0 (pc' := 235) (st' := [.int 3, .ref 0, .int x2, .int x1, .ref 16]) rfl rfl rfl ?_
  refine pm_R_iald pm_M0 (pc' := 236) (v := x3) rfl (hh 0 (Nat.le_of_ble_eq_true rfl)) (Nat.le_of_ble_eq_true rfl) rfl hx3 rfl ?_
  refine pm_R_lo pm_M0 (pc' := 237) rfl rfl rfl ?_
  refine pm_R_lo pm_M0 (pc' := 238) rfl rfl rfl ?_
  refine pm_R_op pm_M0 (pc' := 239) (st' := [.int 4, .int 0, .ref 0, .int x3, .int x2, .int x1, .ref 16]) rfl rfl rfl ?_
  refine pm_R_op pm_M0 (pc' := 240) (st' := [.int 4, .ref 0, .int x3, .int x2, .int x1, .ref 16]) rfl rfl rfl ?_
  refine pm_R_iald pm_M0 (pc' := 241) (v := x4) rfl (hh 0 (Nat.le_of_ble_eq_true rfl)) (Nat.le_of_ble_eq_true rfl) rfl hx4 rfl ?_
  refine pm_R_lo pm_M0 (pc' := 242) rfl rfl rfl ?_
  refine pm_R_lo pm_M0 (pc' := 243) rfl rfl rfl ?_
  refine pm_R_op pm_M0 (pc' := 244) (st' := [.int 5, .int 0, .ref 0, .int x4, .int x3, .int x2, .int x1, .ref 16]) rfl rfl rfl ?_
  refine pm_R_op pm_M0 (pc' := 245) (st' := [.int 5, .ref 0, .int x4, .int x3, .int x2, .int x1, .ref 16]) rfl rfl rfl ?_
  refine pm_R_iald pm_M0 (pc' := 246) (v := x5) rfl (hh 0 (Nat.le_of_ble_eq_true rfl)) (Nat.le_of_ble_eq_true rfl) rfl hx5 rfl ?_
  refine pm_R_cv pm_M0 (pc' := 249) (a := 16) (ra := [.int x5, .int x4, .int x3, .int x2, .int x1]) (rest := []) (ls' := [.ref 16, .int x1, .int x2, .int x3, .int x4, .int x5]) rfl rfl (Or.inl rfl) pm_M7 (hh 16 (Nat.le_of_ble_eq_true rfl)) rfl (Nat.le_of_ble_eq_true rfl) (Nat.le_of_ble_eq_true rfl) rfl rfl (Nat.le_of_ble_eq_true rfl) rfl rfl ?_
  refine pm_R_lo pm_M7 (pc' := 1) rfl rfl rfl ?_
  refine pm_R_get pm_M7 (pc' := 4) (v := .ref 17) rfl rfl (hh 16 (Nat.le_of_ble_eq_true rfl)) (Nat.le_of_ble_eq_true rfl) (Nat.le_of_ble_eq_true rfl) rfl rfl ?_
  refine pm_R_get pm_M7 (pc' := 7) (v := .int 0) rfl rfl (hh 17 (Nat.le_of_ble_eq_true rfl)) (Nat.le_of_ble_eq_true rfl) (Nat.le_of_ble_eq_true rfl) rfl rfl ?_
  refine pm_R_op pm_M7 (pc' := 9) (st' := [.int 20, .int 0]) rfl rfl rfl ?_
  refine pm_R_op pm_M7 (pc' := 10) (st' := [.int 20]) rfl rfl rfl ?_
  refine pm_R_op pm_M7 (pc' := 13) (st' := [.int 600, .int 20]) rfl rfl rfl ?_
  refine pm_R_br pm_M7 (pc' := 18) (st' := []) rfl rfl ?_
  refine pm_R_lo pm_M7 (pc' := 19) rfl rfl rfl ?_
  refine pm_R_get pm_M7 (pc' := 22) (v := .ref 17) rfl rfl (hh 16 (Nat.le_of_ble_eq_true rfl)) (Nat.le_of_ble_eq_true rfl) (Nat.le_of_ble_eq_true rfl) rfl rfl ?_
  refine pm_R_lo pm_M7 (pc' := 23) rfl rfl rfl ?_
  refine pm_R_cv pm_M7 (pc' := 26) (a := 17) (ra := [.int x1]) (rest := []) (ls' := [.ref 17, .int x1, pm_no]) rfl rfl (Or.inl rfl) pm_M8 (hh 17 (Nat.le_of_ble_eq_true rfl)) rfl (Nat.le_of_ble_eq_true rfl) (Nat.le_of_ble_eq_true rfl) rfl rfl (Nat.le_of_ble_eq_true rfl) rfl rfl ?_
  refine pm_R_op pm_M8 (pc' := 2) (st' := [.int 24]) rfl rfl rfl ?_
  refine pm_R_lo pm_M8 (pc' := 3) (ls' := [.ref 17, .int x1, .int 24]) (st' := []) rfl rfl rfl ?_
  refine pm_R_lo pm_M8 (pc' := 4) rfl rfl rfl ?_
  refine pm_R_br pm_M8 (pc' := 7) (st' := []) rfl rfl ?_
  refine pm_R_lo pm_M8 (pc' := 8) rfl rfl rfl ?_
  refine pm_R_get pm_M8 (pc' := 11) (v := .int 0) rfl rfl (hh 17 (Nat.le_of_ble_eq_true rfl)) (Nat.le_of_ble_eq_true rfl) (Nat.le_of_ble_eq_true rfl) rfl rfl ?_
  refine pm_R_op pm_M8 (pc' := 14) (st' := [.int 600, .int 0]) rfl rfl rfl ?_
  refine pm_R_br pm_M8 (pc' := 17) (st' := []) rfl rfl ?_
  refine pm_R_lo pm_M8 (pc' := 18) rfl rfl rfl ?_
  refine pm_R_get pm_M8 (pc' := 21) (v := .ref 18) rfl rfl (hh 17 (Nat.le_of_ble_eq_true rfl)) (Nat.le_of_ble_eq_true rfl) (Nat.le_of_ble_eq_true rfl) rfl rfl ?_
  refine pm_R_lo pm_M8 (pc' := 22) rfl rfl rfl ?_
  refine pm_R_get pm_M8 (pc' := 25) (v := .int 0) rfl rfl (hh 17 (Nat.le_of_ble_eq_true rfl)) (Nat.le_of_ble_eq_true rfl) (Nat.le_of_ble_eq_true rfl) rfl rfl ?_
  refine pm_R_lo pm_M8 (pc' := 26) rfl rfl rfl ?_
  refine pm_R_lo pm_M8 (pc' := 27) rfl rfl rfl ?_
  refine pm_R_op pm_M8 (pc' := 28) (st' := [.int ((Int32.toUInt32 (x1) >>> (Int32.toUInt32 (24) &&& Int32.toUInt32 31)).toInt32), .int 0, .ref 18]) rfl rfl rfl ?_
  refine pm_R_op pm_M8 (pc' := 29) (st' := [.int ((Int32.toInt8 (((Int32.toUInt32 (x1) >>> (Int32.toUInt32 (24) &&& Int32.toUInt32 31)).toInt32))).toInt32), .int 0, .ref 18]) rfl rfl rfl ?_
  refine pm_R_bast pm_M8 (pc' := 30) rfl (hh 18 (Nat.le_of_ble_eq_true rfl)) (Nat.le_of_ble_eq_true rfl) (Nat.le_of_ble_eq_true rfl) rfl rfl ?_
  refine pm_R_lo pm_M8 (pc' := 31) rfl rfl rfl ?_
  refine pm_R_op pm_M8 (pc' := 32) (st' := [.ref 17, .ref 17]) rfl rfl rfl ?_
  refine pm_R_get pm_M8 (pc' := 35) (v := .int 0) rfl rfl (hh 17 (Nat.le_of_ble_eq_true rfl)) (Nat.le_of_ble_eq_true rfl) (Nat.le_of_ble_eq_true rfl) rfl rfl ?_
  refine pm_R_op pm_M8 (pc' := 36) (st' := [.int 1, .int 0, .ref 17]) rfl rfl rfl ?_
  refine pm_R_op pm_M8 (pc' := 37) (st' := [.int 1, .ref 17]) rfl rfl rfl ?_
  refine pm_R_put pm_M8 (pc' := 40) (fs' := [.ref 18, .int 1, .int 0, .int (-1), .ref 19, .ref 20, .ref 21, .ref 22, .ref 23]) rfl rfl rfl (hh 17 (Nat.le_of_ble_eq_true rfl)) (Nat.le_of_ble_eq_true rfl) (Nat.le_of_ble_eq_true rfl) (Nat.le_of_ble_eq_true rfl) rfl (Or.inl rfl) rfl rfl ?_
  refine pm_R_lo pm_M8 (pc' := 43) (ls' := [.ref 17, .int x1, .int 16]) (st' := []) rfl rfl rfl ?_
  refine pm_R_br pm_M8 (pc' := 3) rfl rfl ?_
  refine pm_R_lo pm_M8 (pc' := 4) rfl rfl rfl ?_
  refine pm_R_br pm_M8 (pc' := 7) (st' := []) rfl rfl ?_
  refine pm_R_lo pm_M8 (pc' := 8) rfl rfl rfl ?_
  refine pm_R_get pm_M8 (pc' := 11) (v := .int 1) rfl rfl rfl (Nat.le_of_ble_eq_true rfl) (Nat.le_of_ble_eq_true rfl) rfl rfl ?_
  refine pm_R_op pm_M8 (pc' := 14) (st' := [.int 600, .int 1]) rfl rfl rfl ?_
  refine pm_R_br pm_M8 (pc' := 17) (st' := []) rfl rfl ?_
  refine pm_R_lo pm_M8 (pc' := 18) rfl rfl rfl ?_
  refine pm_R_get pm_M8 (pc' := 21) (v := .ref 18) rfl rfl rfl (Nat.le_of_ble_eq_true rfl) (Nat.le_of_ble_eq_true rfl) rfl rfl ?_
  refine pm_R_lo pm_M8 (pc' := 22) rfl rfl rfl ?_
  refine pm_R_get pm_M8 (pc' := 25) (v := .int 1) rfl rfl rfl (Nat.le_of_ble_eq_true rfl) (Nat.le_of_ble_eq_true rfl) rfl rfl ?_
  refine pm_R_lo pm_M8 (pc' := 26) rfl rfl rfl ?_
  refine pm_R_lo pm_M8 (pc' := 27) rfl rfl rfl ?_
  refine pm_R_op pm_M8 (pc' := 28) (st' := [.int ((Int32.toUInt32 (x1) >>> (Int32.toUInt32 (16) &&& Int32.toUInt32 31)).toInt32), .int 1, .ref 18]) rfl rfl rfl ?_
  refine pm_R_op pm_M8 (pc' := 29) (st' := [.int ((Int32.toInt8 (((Int32.toUInt32 (x1) >>> (Int32.toUInt32 (16) &&& Int32.toUInt32 31)).toInt32))).toInt32), .int 1, .ref 18]) rfl rfl rfl ?_
  refine pm_R_bast pm_M8 (pc' := 30) rfl rfl (Nat.le_of_ble_eq_true rfl) (Nat.le_of_ble_eq_true rfl) rfl rfl ?_
  refine pm_R_lo pm_M8 (pc' := 31) rfl rfl rfl ?_
  refine pm_R_op pm_M8 (pc' := 32) (st' := [.ref 17, .ref 17]) rfl rfl rfl ?_
  refine pm_R_get pm_M8 (pc' := 35) (v := .int 1) rfl rfl rfl (Nat.le_of_ble_eq_true rfl) (Nat.le_of_ble_eq_true rfl) rfl rfl ?_
  refine pm_R_op pm_M8 (pc' := 36) (st' := [.int 1, .int 1, .ref 17]) rfl rfl rfl ?_
  refine pm_R_op pm_M8 (pc' := 37) (st' := [.int 2, .ref 17]) rfl rfl rfl ?_
  refine pm_R_put pm_M8 (pc' := 40) (fs' := [.ref 18, .int 2, .int 0, .int (-1), .ref 19, .ref 20, .ref 21, .ref 22, .ref 23]) rfl rfl rfl rfl (Nat.le_of_ble_eq_true rfl) (Nat.le_of_ble_eq_true rfl) (Nat.le_of_ble_eq_true rfl) rfl (Or.inl rfl) rfl rfl ?_
  refine pm_R_lo pm_M8 (pc' := 43) (ls' := [.ref 17, .int x1, .int 8]) (st' := []) rfl rfl rfl ?_
  refine pm_R_br pm_M8 (pc' := 3) rfl rfl ?_
  refine pm_R_lo pm_M8 (pc' := 4) rfl rfl rfl ?_
  refine pm_R_br pm_M8 (pc' := 7) (st' := []) rfl rfl ?_
  refine pm_R_lo pm_M8 (pc' := 8) rfl rfl rfl ?_
  refine pm_R_get pm_M8 (pc' := 11) (v := .int 2) rfl rfl rfl (Nat.le_of_ble_eq_true rfl) (Nat.le_of_ble_eq_true rfl) rfl rfl ?_
  refine pm_R_op pm_M8 (pc' := 14) (st' := [.int 600, .int 2]) rfl rfl rfl ?_
  refine pm_R_br pm_M8 (pc' := 17) (st' := []) rfl rfl ?_
  refine pm_R_lo pm_M8 (pc' := 18) rfl rfl rfl ?_
  refine pm_R_get pm_M8 (pc' := 21) (v := .ref 18) rfl rfl rfl (Nat.le_of_ble_eq_true rfl) (Nat.le_of_ble_eq_true rfl) rfl rfl ?_
  refine pm_R_lo pm_M8 (pc' := 22) rfl rfl rfl ?_
  refine pm_R_get pm_M8 (pc' := 25) (v := .int 2) rfl rfl rfl (Nat.le_of_ble_eq_true rfl) (Nat.le_of_ble_eq_true rfl) rfl rfl ?_
  refine pm_R_lo pm_M8 (pc' := 26) rfl rfl rfl ?_
  refine pm_R_lo pm_M8 (pc' := 27) rfl rfl rfl ?_
  refine pm_R_op pm_M8 (pc' := 28) (st' := [.int ((Int32.toUInt32 (x1) >>> (Int32.toUInt32 (8) &&& Int32.toUInt32 31)).toInt32), .int 2, .ref 18]) rfl rfl rfl ?_
  refine pm_R_op pm_M8 (pc' := 29) (st' := [.int ((Int32.toInt8 (((Int32.toUInt32 (x1) >>> (Int32.toUInt32 (8) &&& Int32.toUInt32 31)).toInt32))).toInt32), .int 2, .ref 18]) rfl rfl rfl ?_
  refine pm_R_bast pm_M8 (pc' := 30) rfl rfl (Nat.le_of_ble_eq_true rfl) (Nat.le_of_ble_eq_true rfl) rfl rfl ?_
  refine pm_R_lo pm_M8 (pc' := 31) rfl rfl rfl ?_
  refine pm_R_op pm_M8 (pc' := 32) (st' := [.ref 17, .ref 17]) rfl rfl rfl ?_
  refine pm_R_get pm_M8 (pc' := 35) (v := .int 2) rfl rfl rfl (Nat.le_of_ble_eq_true rfl) (Nat.le_of_ble_eq_true rfl) rfl rfl ?_
  refine pm_R_op pm_M8 (pc' := 36) (st' := [.int 1, .int 2, .ref 17]) rfl rfl rfl ?_
  refine pm_R_op pm_M8 (pc' := 37) (st' := [.int 3, .ref 17]) rfl rfl rfl ?_
  refine pm_R_put pm_M8 (pc' := 40) (fs' := [.ref 18, .int 3, .int 0, .int (-1), .ref 19, .ref 20, .ref 21, .ref 22, .ref 23]) rfl rfl rfl rfl (Nat.le_of_ble_eq_true rfl) (Nat.le_of_ble_eq_true rfl) (Nat.le_of_ble_eq_true rfl) rfl (Or.inl rfl) rfl rfl ?_
  refine pm_R_lo pm_M8 (pc' := 43) (ls' := [.ref 17, .int x1, .int 0]) (st' := []) rfl rfl rfl ?_
  refine pm_R_br pm_M8 (pc' := 3) rfl rfl ?_
  refine pm_R_lo pm_M8 (pc' := 4) rfl rfl rfl ?_
  refine pm_R_br pm_M8 (pc' := 7) (st' := []) rfl rfl ?_
  refine pm_R_lo pm_M8 (pc' := 8) rfl rfl rfl ?_
  refine pm_R_get pm_M8 (pc' := 11) (v := .int 3) rfl rfl rfl (Nat.le_of_ble_eq_true rfl) (Nat.le_of_ble_eq_true rfl) rfl rfl ?_
  refine pm_R_op pm_M8 (pc' := 14) (st' := [.int 600, .int 3]) rfl rfl rfl ?_
  refine pm_R_br pm_M8 (pc' := 17) (st' := []) rfl rfl ?_
  refine pm_R_lo pm_M8 (pc' := 18) rfl rfl rfl ?_
  refine pm_R_get pm_M8 (pc' := 21) (v := .ref 18) rfl rfl rfl (Nat.le_of_ble_eq_true rfl) (Nat.le_of_ble_eq_true rfl) rfl rfl ?_
  refine pm_R_lo pm_M8 (pc' := 22) rfl rfl rfl ?_
  refine pm_R_get pm_M8 (pc' := 25) (v := .int 3) rfl rfl rfl (Nat.le_of_ble_eq_true rfl) (Nat.le_of_ble_eq_true rfl) rfl rfl ?_
  refine pm_R_lo pm_M8 (pc' := 26) rfl rfl rfl ?_
  refine pm_R_lo pm_M8 (pc' := 27) rfl rfl rfl ?_
  refine pm_R_op pm_M8 (pc' := 28) (st' := [.int ((Int32.toUInt32 (x1) >>> (Int32.toUInt32 (0) &&& Int32.toUInt32 31)).toInt32), .int 3, .ref 18]) rfl rfl rfl ?_
  refine pm_R_op pm_M8 (pc' := 29) (st' := [.int ((Int32.toInt8 (((Int32.toUInt32 (x1) >>> (Int32.toUInt32 (0) &&& Int32.toUInt32 31)).toInt32))).toInt32), .int 3, .ref 18]) rfl rfl rfl ?_
  refine pm_R_bast pm_M8 (pc' := 30) rfl rfl (Nat.le_of_ble_eq_true rfl) (Nat.le_of_ble_eq_true rfl) rfl rfl ?_
  refine pm_R_lo pm_M8 (pc' := 31) rfl rfl rfl ?_
  refine pm_R_op pm_M8 (pc' := 32) (st' := [.ref 17, .ref 17]) rfl rfl rfl ?_
  refine pm_R_get pm_M8 (pc' := 35) (v := .int 3) rfl rfl rfl (Nat.le_of_ble_eq_true rfl) (Nat.le_of_ble_eq_true rfl) rfl rfl ?_
  refine pm_R_op pm_M8 (pc' := 36) (st' := [.int 1, .int 3, .ref 17]) rfl rfl rfl ?_
  refine pm_R_op pm_M8 (pc' := 37) (st' := [.int 4, .ref 17]) rfl rfl rfl ?_
  refine pm_R_put pm_M8 (pc' := 40) (fs' := [.ref 18, .int 4, .int 0, .int (-1), .ref 19, .ref 20, .ref 21, .ref 22, .ref 23]) rfl rfl rfl rfl (Nat.le_of_ble_eq_true rfl) (Nat.le_of_ble_eq_true rfl) (Nat.le_of_ble_eq_true rfl) rfl (Or.inl rfl) rfl rfl ?_
  refine pm_R_lo pm_M8 (pc' := 43) (ls' := [.ref 17, .int x1, .int (-8)]) (st' := []) rfl rfl rfl ?_
  refine pm_R_br pm_M8 (pc' := 3) rfl rfl ?_
  refine pm_R_lo pm_M8 (pc' := 4) rfl rfl rfl ?_
  refine pm_R_br pm_M8 (pc' := 46) (st' := []) rfl rfl ?_
  refine pm_R_ret pm_M8 (r := none) rfl rfl ?_
  show pm_R _ 7 26 [.ref 16, .int x1, .int x2, .int x3, .int x4, .int x5] [] _ _
  refine pm_R_lo pm_M7 (pc' := 27) rfl rfl rfl ?_
  refine pm_R_get pm_M7 (pc' := 30) (v := .ref 17) rfl rfl (hh 16 (Nat.le_of_ble_eq_true rfl)) (Nat.le_of_ble_eq_true rfl) (Nat.le_of_ble_eq_true rfl) rfl rfl ?_
  refine pm_R_lo pm_M7 (pc' := 31) rfl rfl rfl ?_
  refine pm_R_cv pm_M7 (pc' := 34) (a := 17) (ra := [.int x2]) (rest := []) (ls' := [.ref 17, .int x2, pm_no]) rfl rfl (Or.inl rfl) pm_M8 rfl rfl (Nat.le_of_ble_eq_true rfl) (Nat.le_of_ble_eq_true rfl) rfl rfl (Nat.le_of_ble_eq_true rfl) rfl rfl ?_
  refine pm_R_op pm_M8 (pc' := 2) (st' := [.int 24]) rfl rfl rfl ?_
  refine pm_R_lo pm_M8 (pc' := 3) (ls' := [.ref 17, .int x2, .int 24]) (st' := []) rfl rfl rfl ?_
  refine pm_R_lo pm_M8 (pc' := 4) rfl rfl rfl ?_
  refine pm_R_br pm_M8 (pc' := 7) (st' := []) rfl rfl ?_
  refine pm_R_lo pm_M8 (pc' := 8) rfl rfl rfl ?_
  refine pm_R_get pm_M8 (pc' := 11) (v := .int 4) rfl rfl rfl (Nat.le_of_ble_eq_true rfl) (Nat.le_of_ble_eq_true rfl) rfl rfl ?_
  refine pm_R_op pm_M8 (pc' := 14) (st' := [.int 600, .int 4]) rfl rfl rfl ?_
  refine pm_R_br pm_M8 (pc' := 17) (st' := []) rfl rfl ?_
  refine pm_R_lo pm_M8 (pc' := 18) rfl rfl rfl ?_
  refine pm_R_get pm_M8 (pc' := 21) (v := .ref 18) rfl rfl rfl (Nat.le_of_ble_eq_true rfl) (Nat.le_of_ble_eq_true rfl) rfl rfl ?_
  refine pm_R_lo pm_M8 (pc' := 22) rfl rfl rfl ?_
  refine pm_R_get pm_M8 (pc' := 25) (v := .int 4) rfl rfl rfl (Nat.le_of_ble_eq_true rfl) (Nat.le_of_ble_eq_true rfl) rfl rfl ?_
  refine pm_R_lo pm_M8 (pc' := 26) rfl rfl rfl ?_
  refine pm_R_lo pm_M8 (pc' := 27) rfl rfl rfl ?_
  refine pm_R_op pm_M8 (pc' := 28) (st' := [.int ((Int32.toUInt32 (x2) >>> (Int32.toUInt32 (24) &&& Int32.toUInt32 31)).toInt32), .int 4, .ref 18]) rfl rfl rfl ?_
  refine pm_R_op pm_M8 (pc' := 29) (st' := [.int ((Int32.toInt8 (((Int32.toUInt32 (x2) >>> (Int32.toUInt32 (24) &&& Int32.toUInt32 31)).toInt32))).toInt32), .int 4, .ref 18]) rfl rfl rfl ?_
  refine pm_R_bast pm_M8 (pc' := 30) rfl rfl (Nat.le_of_ble_eq_true rfl) (Nat.le_of_ble_eq_true rfl) rfl rfl ?_
  refine pm_R_lo pm_M8 (pc' := 31) rfl rfl rfl ?_
  refine pm_R_op pm_M8 (pc' := 32) (st' := [.ref 17, .ref 17]) rfl rfl rfl ?_
  refine pm_R_get pm_M8 (pc' := 35) (v := .int 4) rfl rfl rfl (Nat.le_of_ble_eq_true rfl) (Nat.le_of_ble_eq_true rfl) rfl rfl ?_
  refine pm_R_op pm_M8 (pc' := 36) (st' := [.int 1, .int 4, .ref 17]) rfl rfl rfl ?_
  refine pm_R_op pm_M8 (pc' := 37) (st' := [.int 5, .ref 17]) rfl rfl rfl ?_
  refine pm_R_put pm_M8 (pc' := 40) (fs' := [.ref 18, .int 5, .int 0, .int (-1), .ref 19, .ref 20, .ref 21, .ref 22, .ref 23]) rfl rfl rfl rfl (Nat.le_of_ble_eq_true rfl) (Nat.le_of_ble_eq_true rfl) (Nat.le_of_ble_eq_true rfl) rfl (Or.inl rfl) rfl rfl ?_
  refine pm_R_lo pm_M8 (pc' := 43) (ls' := [.ref 17, .int x2, .int 16]) (st' := []) rfl rfl rfl ?_
  refine pm_R_br pm_M8 (pc' := 3) rfl rfl ?_
  refine pm_R_lo pm_M8 (pc' := 4) rfl rfl rfl ?_
  refine pm_R_br pm_M8 (pc' := 7) (st' := []) rfl rfl ?_
  refine pm_R_lo pm_M8 (pc' := 8) rfl rfl rfl ?_
  refine pm_R_get pm_M8 (pc' := 11) (v := .int 5) rfl rfl rfl (Nat.le_of_ble_eq_true rfl) (Nat.le_of_ble_eq_true rfl) rfl rfl ?_
  refine pm_R_op pm_M8 (pc' := 14) (st' := [.int 600, .int 5]) rfl rfl rfl ?_
  refine pm_R_br pm_M8 (pc' := 17) (st' := []) rfl rfl ?_
  refine pm_R_lo pm_M8 (pc' := 18) rfl rfl rfl ?_
  refine pm_R_get pm_M8 (pc' := 21) (v := .ref 18) rfl rfl rfl (Nat.le_of_ble_eq_true rfl) (Nat.le_of_ble_eq_true rfl) rfl rfl ?_
  refine pm_R_lo pm_M8 (pc' := 22) rfl rfl rfl ?_
  refine pm_R_get pm_M8 (pc' := 25) (v := .int 5) rfl rfl rfl (Nat.le_of_ble_eq_true rfl) (Nat.le_of_ble_eq_true rfl) rfl rfl ?_
  refine pm_R_lo pm_M8 (pc' := 26) rfl rfl rfl ?_
  refine pm_R_lo pm_M8 (pc' := 27) rfl rfl rfl ?_
  refine pm_R_op pm_M8 (pc' := 28) (st' := [.int ((Int32.toUInt32 (x2) >>> (Int32.toUInt32 (16) &&& Int32.toUInt32 31)).toInt32), .int 5, .ref 18]) rfl rfl rfl ?_
  refine pm_R_op pm_M8 (pc' := 29) (st' := [.int ((Int32.toInt8 (((Int32.toUInt32 (x2) >>> (Int32.toUInt32 (16) &&& Int32.toUInt32 31)).toInt32))).toInt32), .int 5, .ref 18]) rfl rfl rfl ?_
  refine pm_R_bast pm_M8 (pc' := 30) rfl rfl (Nat.le_of_ble_eq_true rfl) (Nat.le_of_ble_eq_true rfl) rfl rfl ?_
  refine pm_R_lo pm_M8 (pc' := 31) rfl rfl rfl ?_
  refine pm_R_op pm_M8 (pc' := 32) (st' := [.ref 17, .ref 17]) rfl rfl rfl ?_
  refine pm_R_get pm_M8 (pc' := 35) (v := .int 5) rfl rfl rfl (Nat.le_of_ble_eq_true rfl) (Nat.le_of_ble_eq_true rfl) rfl rfl ?_
  refine pm_R_op pm_M8 (pc' := 36) (st' := [.int 1, .int 5, .ref 17]) rfl rfl rfl ?_
  refine pm_R_op pm_M8 (pc' := 37) (st' := [.int 6, .ref 17]) rfl rfl rfl ?_
  refine pm_R_put pm_M8 (pc' := 40) (fs' := [.ref 18, .int 6, .int 0, .int (-1), .ref 19, .ref 20, .ref 21, .ref 22, .ref 23]) rfl rfl rfl rfl (Nat.le_of_ble_eq_true rfl) (Nat.le_of_ble_eq_true rfl) (Nat.le_of_ble_eq_true rfl) rfl (Or.inl rfl) rfl rfl ?_
  refine pm_R_lo pm_M8 (pc' := 43) (ls' := [.ref 17, .int x2, .int 8]) (st' := []) rfl rfl rfl ?_
  refine pm_R_br pm_M8 (pc' := 3) rfl rfl ?_
  refine pm_R_lo pm_M8 (pc' := 4) rfl rfl rfl ?_
  refine pm_R_br pm_M8 (pc' := 7) (st' := []) rfl rfl ?_
  refine pm_R_lo pm_M8 (pc' := 8) rfl rfl rfl ?_
  refine pm_R_get pm_M8 (pc' := 11) (v := .int 6) rfl rfl rfl (Nat.le_of_ble_eq_true rfl) (Nat.le_of_ble_eq_true rfl) rfl rfl ?_
  refine pm_R_op pm_M8 (pc' := 14) (st' := [.int 600, .int 6]) rfl rfl rfl ?_
  refine pm_R_br pm_M8 (pc' := 17) (st' := []) rfl rfl ?_
  refine pm_R_lo pm_M8 (pc' := 18) rfl rfl rfl ?_
  refine pm_R_get pm_M8 (pc' := 21) (v := .ref 18) rfl rfl rfl (Nat.le_of_ble_eq_true rfl) (Nat.le_of_ble_eq_true rfl) rfl rfl ?_
  refine pm_R_lo pm_M8 (pc' := 22) rfl rfl rfl ?_
  refine pm_R_get pm_M8 (pc' := 25) (v := .int 6) rfl rfl rfl (Nat.le_of_ble_eq_true rfl) (Nat.le_of_ble_eq_true rfl) rfl rfl ?_
  refine pm_R_lo pm_M8 (pc' := 26) rfl rfl rfl ?_
  refine pm_R_lo pm_M8 (pc' := 27) rfl rfl rfl ?_
  refine pm_R_op pm_M8 (pc' := 28) (st' := [.int ((Int32.toUInt32 (x2) >>> (Int32.toUInt32 (8) &&& Int32.toUInt32 31)).toInt32), .int 6, .ref 18]) rfl rfl rfl ?_
  refine pm_R_op pm_M8 (pc' := 29) (st' := [.int ((Int32.toInt8 (((Int32.toUInt32 (x2) >>> (Int32.toUInt32 (8) &&& Int32.toUInt32 31)).toInt32))).toInt32), .int 6, .ref 18]) rfl rfl rfl ?_
  refine pm_R_bast pm_M8 (pc' := 30) rfl rfl (Nat.le_of_ble_eq_true rfl) (Nat.le_of_ble_eq_true rfl) rfl rfl ?_
  refine pm_R_lo pm_M8 (pc' := 31) rfl rfl rfl ?_
  refine pm_R_op pm_M8 (pc' := 32) (st' := [.ref 17, .ref 17]) rfl rfl rfl ?_
  refine pm_R_get pm_M8 (pc' := 35) (v := .int 6) rfl rfl rfl (Nat.le_of_ble_eq_true rfl) (Nat.le_of_ble_eq_true rfl) rfl rfl ?_
  refine pm_R_op pm_M8 (pc' := 36) (st' := [.int 1, .int 6, .ref 17]) rfl rfl rfl ?_
  refine pm_R_op pm_M8 (pc' := 37) (st' := [.int 7, .ref 17]) rfl rfl rfl ?_
  refine pm_R_put pm_M8 (pc' := 40) (fs' := [.ref 18, .int 7, .int 0, .int (-1), .ref 19, .ref 20, .ref 21, .ref 22, .ref 23]) rfl rfl rfl rfl (Nat.le_of_ble_eq_true rfl) (Nat.le_of_ble_eq_true rfl) (Nat.le_of_ble_eq_true rfl) rfl (Or.inl rfl) rfl rfl ?_
  refine pm_R_lo pm_M8 (pc' := 43) (ls' := [.ref 17, .int x2, .int 0]) (st' := []) rfl rfl rfl ?_
  refine pm_R_br pm_M8 (pc' := 3) rfl rfl ?_
  refine pm_R_lo pm_M8 (pc' := 4) rfl rfl rfl ?_
  refine pm_R_br pm_M8 (pc' := 7) (st' := []) rfl rfl ?_
  refine pm_R_lo pm_M8 (pc' := 8) rfl rfl rfl ?_
  refine pm_R_get pm_M8 (pc' := 11) (v := .int 7) rfl rfl rfl (Nat.le_of_ble_eq_true rfl) (Nat.le_of_ble_eq_true rfl) rfl rfl ?_
  refine pm_R_op pm_M8 (pc' := 14) (st' := [.int 600, .int 7]) rfl rfl rfl ?_
  refine pm_R_br pm_M8 (pc' := 17) (st' := []) rfl rfl ?_
  refine pm_R_lo pm_M8 (pc' := 18) rfl rfl rfl ?_
  refine pm_R_get pm_M8 (pc' := 21) (v := .ref 18) rfl rfl rfl (Nat.le_of_ble_eq_true rfl) (Nat.le_of_ble_eq_true rfl) rfl rfl ?_
  refine pm_R_lo pm_M8 (pc' := 22) rfl rfl rfl ?_
  refine pm_R_get pm_M8 (pc' := 25) (v := .int 7) rfl rfl rfl (Nat.le_of_ble_eq_true rfl) (Nat.le_of_ble_eq_true rfl) rfl rfl ?_
  refine pm_R_lo pm_M8 (pc' := 26) rfl rfl rfl ?_
  refine pm_R_lo pm_M8 (pc' := 27) rfl rfl rfl ?_
  refine pm_R_op pm_M8 (pc' := 28) (st' := [.int ((Int32.toUInt32 (x2) >>> (Int32.toUInt32 (0) &&& Int32.toUInt32 31)).toInt32), .int 7, .ref 18]) rfl rfl rfl ?_
  refine pm_R_op pm_M8 (pc' := 29) (st' := [.int ((Int32.toInt8 (((Int32.toUInt32 (x2) >>> (Int32.toUInt32 (0) &&& Int32.toUInt32 31)).toInt32))).toInt32), .int 7, .ref 18]) rfl rfl rfl ?_
  refine pm_R_bast pm_M8 (pc' := 30) rfl rfl (Nat.le_of_ble_eq_true rfl) (Nat.le_of_ble_eq_true rfl) rfl rfl ?_
  refine pm_R_lo pm_M8 (pc' := 31) rfl rfl rfl ?_
  refine pm_R_op pm_M8 (pc' := 32) (st' := [.ref 17, .ref 17]) rfl rfl rfl ?_
  refine pm_R_get pm_M8 (pc' := 35) (v := .int 7) rfl rfl rfl (Nat.le_of_ble_eq_true rfl) (Nat.le_of_ble_eq_true rfl) rfl rfl ?_
  refine pm_R_op pm_M8 (pc' := 36) (st' := [.int 1, .int 7, .ref 17]) rfl rfl rfl ?_
  refine pm_R_op pm_M8 (pc' := 37) (st' := [.int 8, .ref 17]) rfl rfl rfl ?_
  refine pm_R_put pm_M8 (pc' := 40) (fs' := [.ref 18, .int 8, .int 0, .int (-1), .ref 19, .ref 20, .ref 21, .ref 22, .ref 23]) rfl rfl rfl rfl (Nat.le_of_ble_eq_true rfl) (Nat.le_of_ble_eq_true rfl) (Nat.le_of_ble_eq_true rfl) rfl (Or.inl rfl) rfl rfl ?_
  refine pm_R_lo pm_M8 (pc' := 43) (ls' := [.ref 17, .int x2, .int (-8)]) (st' := []) rfl rfl rfl ?_
  refine pm_R_br pm_M8 (pc' := 3) rfl rfl ?_
  refine pm_R_lo pm_M8 (pc' := 4) rfl rfl rfl ?_
  refine pm_R_br pm_M8 (pc' := 46) (st' := []) rfl rfl ?_
  refine pm_R_ret pm_M8 (r := none) rfl rfl ?_
  show pm_R _ 7 34 [.ref 16, .int x1, .int x2, .int x3, .int x4, .int x5] [] _ _
  refine pm_R_lo pm_M7 (pc' := 35) rfl rfl rfl ?_
  refine pm_R_get pm_M7 (pc' := 38) (v := .ref 17) rfl rfl (hh 16 (Nat.le_of_ble_eq_true rfl)) (Nat.le_of_ble_eq_true rfl) (Nat.le_of_ble_eq_true rfl) rfl rfl ?_
  refine pm_R_lo pm_M7 (pc' := 39) rfl rfl rfl ?_
  refine pm_R_cv pm_M7 (pc' := 42) (a := 17) (ra := [.int x3]) (rest := []) (ls' := [.ref 17, .int x3, pm_no]) rfl rfl (Or.inl rfl) pm_M8 rfl rfl (Nat.le_of_ble_eq_true rfl) (Nat.le_of_ble_eq_true rfl) rfl rfl (Nat.le_of_ble_eq_true rfl) rfl rfl ?_
  refine pm_R_op pm_M8 (pc' := 2) (st' := [.int 24]) rfl rfl rfl ?_
  refine pm_R_lo pm_M8 (pc' := 3) (ls' := [.ref 17, .int x3, .int 24]) (st' := []) rfl rfl rfl ?_
  refine pm_R_lo pm_M8 (pc' := 4) rfl rfl rfl ?_
  refine pm_R_br pm_M8 (pc' := 7) (st' := []) rfl rfl ?_
  refine pm_R_lo pm_M8 (pc' := 8) rfl rfl rfl ?_
  refine pm_R_get pm_M8 (pc' := 11) (v := .int 8) rfl rfl rfl (Nat.le_of_ble_eq_true rfl) (Nat.le_of_ble_eq_true rfl) rfl rfl ?_
  refine pm_R_op pm_M8 (pc' := 14) (st' := [.int 600, .int 8]) rfl rfl rfl ?_
  refine pm_R_br pm_M8 (pc' := 17) (st' := []) rfl rfl ?_
  refine pm_R_lo pm_M8 (pc' := 18) rfl rfl rfl ?_
  refine pm_R_get pm_M8 (pc' := 21) (v := .ref 18) rfl rfl rfl (Nat.le_of_ble_eq_true rfl) (Nat.le_of_ble_eq_true rfl) rfl rfl ?_
  refine pm_R_lo pm_M8 (pc' := 22) rfl rfl rfl ?_
  refine pm_R_get pm_M8 (pc' := 25) (v := .int 8) rfl rfl rfl (Nat.le_of_ble_eq_true rfl) (Nat.le_of_ble_eq_true rfl) rfl rfl ?_
  refine pm_R_lo pm_M8 (pc' := 26) rfl rfl rfl ?_
  refine pm_R_lo pm_M8 (pc' := 27) rfl rfl rfl ?_
  refine pm_R_op pm_M8 (pc' := 28) (st' := [.int ((Int32.toUInt32 (x3) >>> (Int32.toUInt32 (24) &&& Int32.toUInt32 31)).toInt32), .int 8, .ref 18]) rfl rfl rfl ?_
  refine pm_R_op pm_M8 (pc' := 29) (st' := [.int ((Int32.toInt8 (((Int32.toUInt32 (x3) >>> (Int32.toUInt32 (24) &&& Int32.toUInt32 31)).toInt32))).toInt32), .int 8, .ref 18]) rfl rfl rfl ?_
  refine pm_R_bast pm_M8 (pc' := 30) rfl rfl (Nat.le_of_ble_eq_true rfl) (Nat.le_of_ble_eq_true rfl) rfl rfl ?_
  refine pm_R_lo pm_M8 (pc' := 31) rfl rfl rfl ?_
  refine pm_R_op pm_M8 (pc' := 32) (st' := [.ref 17, .ref 17]) rfl rfl rfl ?_
  refine pm_R_get pm_M8 (pc' := 35) (v := .int 8) rfl rfl rfl (Nat.le_of_ble_eq_true rfl) (Nat.le_of_ble_eq_true rfl) rfl rfl ?_
  refine pm_R_op pm_M8 (pc' := 36) (st' := [.int 1, .int 8, .ref 17]) rfl rfl rfl ?_
  refine pm_R_op pm_M8 (pc' := 37) (st' := [.int 9, .ref 17]) rfl rfl rfl ?_
  refine pm_R_put pm_M8 (pc' := 40) (fs' := [.ref 18, .int 9, .int 0, .int (-1), .ref 19, .ref 20, .ref 21, .ref 22, .ref 23]) rfl rfl rfl rfl (Nat.le_of_ble_eq_true rfl) (Nat.le_of_ble_eq_true rfl) (Nat.le_of_ble_eq_true rfl) rfl (Or.inl rfl) rfl rfl ?_
  refine pm_R_lo pm_M8 (pc' := 43) (ls' := [.ref 17, .int x3, .int 16]) (st' := []) rfl rfl rfl ?_
  refine pm_R_br pm_M8 (pc' := 3) rfl rfl ?_
  refine pm_R_lo pm_M8 (pc' := 4) rfl rfl rfl ?_
  refine pm_R_br pm_M8 (pc' := 7) (st' := []) rfl rfl ?_
  refine pm_R_lo pm_M8 (pc' := 8) rfl rfl rfl ?_
  refine pm_R_get pm_M8 (pc' := 11) (v := .int 9) rfl rfl rfl (Nat.le_of_ble_eq_true rfl) (Nat.le_of_ble_eq_true rfl) rfl rfl ?_
  refine pm_R_op pm_M8 (pc' := 14) (st' := [.int 600, .int 9]) rfl rfl rfl ?_
  refine pm_R_br pm_M8 (pc' := 17) (st' := []) rfl rfl ?_
  refine pm_R_lo pm_M8 (pc' := 18) rfl rfl rfl ?_
  refine pm_R_get pm_M8 (pc' := 21) (v := .ref 18) rfl rfl rfl (Nat.le_of_ble_eq_true rfl) (Nat.le_of_ble_eq_true rfl) rfl rfl ?_
  refine pm_R_lo pm_M8 (pc' := 22) rfl rfl rfl ?_
  refine pm_R_get pm_M8 (pc' := 25) (v := .int 9) rfl rfl rfl (Nat.le_of_ble_eq_true rfl) (Nat.le_of_ble_eq_true rfl) rfl rfl ?_
  refine pm_R_lo pm_M8 (pc' := 26) rfl rfl rfl ?_
  refine pm_R_lo pm_M8 (pc' := 27) rfl rfl rfl ?_
  refine pm_R_op pm_M8 (pc' := 28) (st' := [.int ((Int32.toUInt32 (x3) >>> (Int32.toUInt32 (16) &&& Int32.toUInt32 31)).toInt32), .int 9, .ref 18]) rfl rfl rfl ?_
  refine pm_R_op pm_M8 (pc' := 29) (st' := [.int ((Int32.toInt8 (((Int32.toUInt32 (x3) >>> (Int32.toUInt32 (16) &&& Int32.toUInt32 31)).toInt32))).toInt32), .int 9, .ref 18]) rfl rfl rfl ?_
  refine pm_R_bast pm_M8 (pc' := 30) rfl rfl (Nat.le_of_ble_eq_true rfl) (Nat.le_of_ble_eq_true rfl) rfl rfl ?_
  refine pm_R_lo pm_M8 (pc' := 31) rfl rfl rfl ?_
  refine pm_R_op pm_M8 (pc' := 32) (st' := [.ref 17, .ref 17]) rfl rfl rfl ?_
  refine pm_R_get pm_M8 (pc' := 35) (v := .int 9) rfl rfl rfl (Nat.le_of_ble_eq_true rfl) (Nat.le_of_ble_eq_true rfl) rfl rfl ?_
  refine pm_R_op pm_M8 (pc' := 36) (st' := [.int 1, .int 9, .ref 17]) rfl rfl rfl ?_
  refine pm_R_op pm_M8 (pc' := 37) (st' := [.int 10, .ref 17]) rfl rfl rfl ?_
  refine pm_R_put pm_M8 (pc' := 40) (fs' := [.ref 18, .int 10, .int 0, .int (-1), .ref 19, .ref 20, .ref 21, .ref 22, .ref 23]) rfl rfl rfl rfl (Nat.le_of_ble_eq_true rfl) (Nat.le_of_ble_eq_true rfl) (Nat.le_of_ble_eq_true rfl) rfl (Or.inl rfl) rfl rfl ?_
  refine pm_R_lo pm_M8 (pc' := 43) (ls' := [.ref 17, .int x3, .int 8]) (st' := []) rfl rfl rfl ?_
  refine pm_R_br pm_M8 (pc' := 3) rfl rfl ?_
  refine pm_R_lo pm_M8 (pc' := 4) rfl rfl rfl ?_
  refine pm_R_br pm_M8 (pc' := 7) (st' := []) rfl rfl ?_
  refine pm_R_lo pm_M8 (pc' := 8) rfl rfl rfl ?_
  refine pm_R_get pm_M8 (pc' := 11) (v := .int 10) rfl rfl rfl (Nat.le_of_ble_eq_true rfl) (Nat.le_of_ble_eq_true rfl) rfl rfl ?_
  refine pm_R_op pm_M8 (pc' := 14) (st' := [.int 600, .int 10]) rfl rfl rfl ?_
  refine pm_R_br pm_M8 (pc' := 17) (st' := []) rfl rfl ?_
  refine pm_R_lo pm_M8 (pc' := 18) rfl rfl rfl ?_
  refine pm_R_get pm_M8 (pc' := 21) (v := .ref 18) rfl rfl rfl (Nat.le_of_ble_eq_true rfl) (Nat.le_of_ble_eq_true rfl) rfl rfl ?_
  refine pm_R_lo pm_M8 (pc' := 22) rfl rfl rfl ?_
  refine pm_R_get pm_M8 (pc' := 25) (v := .int 10) rfl rfl rfl (Nat.le_of_ble_eq_true rfl) (Nat.le_of_ble_eq_true rfl) rfl rfl ?_
  refine pm_R_lo pm_M8 (pc' := 26) rfl rfl rfl ?_
  refine pm_R_lo pm_M8 (pc' := 27) rfl rfl rfl ?_
  refine pm_R_op pm_M8 (pc' := 28) (st' := [.int ((Int32.toUInt32 (x3) >>> (Int32.toUInt32 (8) &&& Int32.toUInt32 31)).toInt32), .int 10, .ref 18]) rfl rfl rfl ?_
  refine pm_R_op pm_M8 (pc' := 29) (st' := [.int ((Int32.toInt8 (((Int32.toUInt32 (x3) >>> (Int32.toUInt32 (8) &&& Int32.toUInt32 31)).toInt32))).toInt32), .int 10, .ref 18]) rfl rfl rfl ?_
  refine pm_R_bast pm_M8 (pc' := 30) rfl rfl (Nat.le_of_ble_eq_true rfl) (Nat.le_of_ble_eq_true rfl) rfl rfl ?_
  refine pm_R_lo pm_M8 (pc' := 31) rfl rfl rfl ?_
  refine pm_R_op pm_M8 (pc' := 32) (st' := [.ref 17, .ref 17]) rfl rfl rfl ?_
  refine pm_R_get pm_M8 (pc' := 35) (v := .int 10) rfl rfl rfl (Nat.le_of_ble_eq_true rfl) (Nat.le_of_ble_eq_true rfl) rfl rfl ?_
  refine pm_R_op pm_M8 (pc' := 36) (st' := [.int 1, .int 10, .ref 17]) rfl rfl rfl ?_
  refine pm_R_op pm_M8 (pc' := 37) (st' := [.int 11, .ref 17]) rfl rfl rfl ?_
  refine pm_R_put pm_M8 (pc' := 40) (fs' := [.ref 18, .int 11, .int 0, .int (-1), .ref 19, .ref 20, .ref 21, .ref 22, .ref 23]) rfl rfl rfl rfl (Nat.le_of_ble_eq_true rfl) (Nat.le_of_ble_eq_true rfl) (Nat.le_of_ble_eq_true rfl) rfl (Or.inl rfl) rfl rfl ?_
  refine pm_R_lo pm_M8 (pc' := 43) (ls' := [.ref 17, .int x3, .int 0]) (st' := []) rfl rfl rfl ?_
  refine pm_R_br pm_M8 (pc' := 3) rfl rfl ?_
  refine pm_R_lo pm_M8 (pc' := 4) rfl rfl rfl ?_
  refine pm_R_br pm_M8 (pc' := 7) (st' := []) rfl rfl ?_
  refine pm_R_lo pm_M8 (pc' := 8) rfl rfl rfl ?_
  refine pm_R_get pm_M8 (pc' := 11) (v := .int 11) rfl rfl rfl (Nat.le_of_ble_eq_true rfl) (Nat.le_of_ble_eq_true rfl) rfl rfl ?_
  refine pm_R_op pm_M8 (pc' := 14) (st' := [.int 600, .int 11]) rfl rfl rfl ?_
  refine pm_R_br pm_M8 (pc' := 17) (st' := []) rfl rfl ?_
  refine pm_R_lo pm_M8 (pc' := 18) rfl rfl rfl ?_
  refine pm_R_get pm_M8 (pc' := 21) (v := .ref 18) rfl rfl rfl (Nat.le_of_ble_eq_true rfl) (Nat.le_of_ble_eq_true rfl) rfl rfl ?_
  refine pm_R_lo pm_M8 (pc' := 22) rfl rfl rfl ?_
  refine pm_R_get pm_M8 (pc' := 25) (v := .int 11) rfl rfl rfl (Nat.le_of_ble_eq_true rfl) (Nat.le_of_ble_eq_true rfl) rfl rfl ?_
  refine pm_R_lo pm_M8 (pc' := 26) rfl rfl rfl ?_
  refine pm_R_lo pm_M8 (pc' := 27) rfl rfl rfl ?_
  refine pm_R_op pm_M8 (pc' := 28) (st' := [.int ((Int32.toUInt32 (x3) >>> (Int32.toUInt32 (0) &&& Int32.toUInt32 31)).toInt32), .int 11, .ref 18]) rfl rfl rfl ?_
  refine pm_R_op pm_M8 (pc' := 29) (st' := [.int ((Int32.toInt8 (((Int32.toUInt32 (x3) >>> (Int32.toUInt32 (0) &&& Int32.toUInt32 31)).toInt32))).toInt32), .int 11, .ref 18]) rfl rfl rfl ?_
  refine pm_R_bast pm_M8 (pc' := 30) rfl rfl (Nat.le_of_ble_eq_true rfl) (Nat.le_of_ble_eq_true rfl) rfl rfl ?_
  refine pm_R_lo pm_M8 (pc' := 31) rfl rfl rfl ?_
  refine pm_R_op pm_M8 (pc' := 32) (st' := [.ref 17, .ref 17]) rfl rfl rfl ?_
  refine pm_R_get pm_M8 (pc' := 35) (v := .int 11) rfl rfl rfl (Nat.le_of_ble_eq_true rfl) (Nat.le_of_ble_eq_true rfl) rfl rfl ?_
  refine pm_R_op pm_M8 (pc' := 36) (st' := [.int 1, .int 11, .ref 17]) rfl rfl rfl ?_
  refine pm_R_op pm_M8 (pc' := 37) (st' := [.int 12, .ref 17]) rfl rfl rfl ?_
  refine pm_R_put pm_M8 (pc' := 40) (fs' := [.ref 18, .int 12, .int 0, .int (-1), .ref 19, .ref 20, .ref 21, .ref 22, .ref 23]) rfl rfl rfl rfl (Nat.le_of_ble_eq_true rfl) (Nat.le_of_ble_eq_true rfl) (Nat.le_of_ble_eq_true rfl) rfl (Or.inl rfl) rfl rfl ?_
  refine pm_R_lo pm_M8 (pc' := 43) (ls' := [.ref 17, .int x3, .int (-8)]) (st' := []) rfl rfl rfl ?_
  refine pm_R_br pm_M8 (pc' := 3) rfl rfl ?_
  refine pm_R_lo pm_M8 (pc' := 4) rfl rfl rfl ?_
  refine pm_R_br pm_M8 (pc' := 46) (st' := []) rfl rfl ?_
  refine pm_R_ret pm_M8 (r := none) rfl rfl ?_
  show pm_R _ 7 42 [.ref 16, .int x1, .int x2, .int x3, .int x4, .int x5] [] _ _
  refine pm_R_lo pm_M7 (pc' := 43) rfl rfl rfl ?_
  refine pm_R_get pm_M7 (pc' := 46) (v := .ref 17) rfl rfl (hh 16 (Nat.le_of_ble_eq_true rfl)) (Nat.le_of_ble_eq_true rfl) (Nat.le_of_ble_eq_true rfl) rfl rfl ?_
  refine pm_R_lo pm_M7 (pc' := 48) rfl rfl rfl ?_
  refine pm_R_cv pm_M7 (pc' := 51) (a := 17) (ra := [.int x4]) (rest := []) (ls' := [.ref 17, .int x4, pm_no]) rfl rfl (Or.inl rfl) pm_M8 rfl rfl (Nat.le_of_ble_eq_true rfl) (Nat.le_of_ble_eq_true rfl) rfl rfl (Nat.le_of_ble_eq_true rfl) rfl rfl ?_
  refine pm_R_op pm_M8 (pc' := 2) (st' := [.int 24]) rfl rfl rfl ?_
  refine pm_R_lo pm_M8 (pc' := 3) (ls' := [.ref 17, .int x4, .int 24]) (st' := []) rfl rfl rfl ?_
  refine pm_R_lo pm_M8 (pc' := 4) rfl rfl rfl ?_
  refine pm_R_br pm_M8 (pc' := 7) (st' := []) rfl rfl ?_
  refine pm_R_lo pm_M8 (pc' := 8) rfl rfl rfl ?_
  refine pm_R_get pm_M8 (pc' := 11) (v := .int 12) rfl rfl rfl (Nat.le_of_ble_eq_true rfl) (Nat.le_of_ble_eq_true rfl) rfl rfl ?_
  refine pm_R_op pm_M8 (pc' := 14) (st' := [.int 600, .int 12]) rfl rfl rfl ?_
  refine pm_R_br pm_M8 (pc' := 17) (st' := []) rfl rfl ?_
  refine pm_R_lo pm_M8 (pc' := 18) rfl rfl rfl ?_
  refine pm_R_get pm_M8 (pc' := 21) (v := .ref 18) rfl rfl rfl (Nat.le_of_ble_eq_true rfl) (Nat.le_of_ble_eq_true rfl) rfl rfl ?_
  refine pm_R_lo pm_M8 (pc' := 22) rfl rfl rfl ?_
  refine pm_R_get pm_M8 (pc' := 25) (v := .int 12) rfl rfl rfl (Nat.le_of_ble_eq_true rfl) (Nat.le_of_ble_eq_true rfl) rfl rfl ?_
  refine pm_R_lo pm_M8 (pc' := 26) rfl rfl rfl ?_
  refine pm_R_lo pm_M8 (pc' := 27) rfl rfl rfl ?_
  refine pm_R_op pm_M8 (pc' := 28) (st' := [.int ((Int32.toUInt32 (x4) >>> (Int32.toUInt32 (24) &&& Int32.toUInt32 31)).toInt32), .int 12, .ref 18]) rfl rfl rfl ?_
  refine pm_R_op pm_M8 (pc' := 29) (st' := [.int ((Int32.toInt8 (((Int32.toUInt32 (x4) >>> (Int32.toUInt32 (24) &&& Int32.toUInt32 31)).toInt32))).toInt32), .int 12, .ref 18]) rfl rfl rfl ?_
  refine pm_R_bast pm_M8 (pc' := 30) rfl rfl (Nat.le_of_ble_eq_true rfl) (Nat.le_of_ble_eq_true rfl) rfl rfl ?_
  refine pm_R_lo pm_M8 (pc' := 31) rfl rfl rfl ?_
  refine pm_R_op pm_M8 (pc' := 32) (st' := [.ref 17, .ref 17]) rfl rfl rfl ?_
  refine pm_R_get pm_M8 (pc' := 35) (v := .int 12) rfl rfl rfl (Nat.le_of_ble_eq_true rfl) (Nat.le_of_ble_eq_true rfl) rfl rfl ?_
  refine pm_R_op pm_M8 (pc' := 36) (st' := [.int 1, .int 12, .ref 17]) rfl rfl rfl ?_
  refine pm_R_op pm_M8 (pc' := 37) (st' := [.int 13, .ref 17]) rfl rfl rfl ?_
  refine pm_R_put pm_M8 (pc' := 40) (fs' := [.ref 18, .int 13, .int 0, .int (-1), .ref 19, .ref 20, .ref 21, .ref 22, .ref 23]) rfl rfl rfl rfl (Nat.le_of_ble_eq_true rfl) (Nat.le_of_ble_eq_true rfl) (Nat.le_of_ble_eq_true rfl) rfl (Or.inl rfl) rfl rfl ?_
  refine pm_R_lo pm_M8 (pc' := 43) (ls' := [.ref 17, .int x4, .int 16]) (st' := []) rfl rfl rfl ?_
  refine pm_R_br pm_M8 (pc' := 3) rfl rfl ?_
  refine pm_R_lo pm_M8 (pc' := 4) rfl rfl rfl ?_
  refine pm_R_br pm_M8 (pc' := 7) (st' := []) rfl rfl ?_
  refine pm_R_lo pm_M8 (pc' := 8) rfl rfl rfl ?_
  refine pm_R_get pm_M8 (pc' := 11) (v := .int 13) rfl rfl rfl (Nat.le_of_ble_eq_true rfl) (Nat.le_of_ble_eq_true rfl) rfl rfl ?_
  refine pm_R_op pm_M8 (pc' := 14) (st' := [.int 600, .int 13]) rfl rfl rfl ?_
  refine pm_R_br pm_M8 (pc' := 17) (st' := []) rfl rfl ?_
  refine pm_R_lo pm_M8 (pc' := 18) rfl rfl rfl ?_
  refine pm_R_get pm_M8 (pc' := 21) (v := .ref 18) rfl rfl rfl (Nat.le_of_ble_eq_true rfl) (Nat.le_of_ble_eq_true rfl) rfl rfl ?_
  refine pm_R_lo pm_M8 (pc' := 22) rfl rfl rfl ?_
  refine pm_R_get pm_M8 (pc' := 25) (v := .int 13) rfl rfl rfl (Nat.le_of_ble_eq_true rfl) (Nat.le_of_ble_eq_true rfl) rfl rfl ?_
  refine pm_R_lo pm_M8 (pc' := 26) rfl rfl rfl ?_
  refine pm_R_lo pm_M8 (pc' := 27) rfl rfl rfl ?_
  refine pm_R_op pm_M8 (pc' := 28) (st' := [.int ((Int32.toUInt32 (x4) >>> (Int32.toUInt32 (16) &&& Int32.toUInt32 31)).toInt32), .int 13, .ref 18]) rfl rfl rfl ?_
  refine pm_R_op pm_M8 (pc' := 29) (st' := [.int ((Int32.toInt8 (((Int32.toUInt32 (x4) >>> (Int32.toUInt32 (16) &&& Int32.toUInt32 31)).toInt32))).toInt32), .int 13, .ref 18]) rfl rfl rfl ?_
  refine pm_R_bast pm_M8 (pc' := 30) rfl rfl (Nat.le_of_ble_eq_true rfl) (Nat.le_of_ble_eq_true rfl) rfl rfl ?_
  refine pm_R_lo pm_M8 (pc' := 31) rfl rfl rfl ?_
  refine pm_R_op pm_M8 (pc' := 32) (st' := [.ref 17, .ref 17]) rfl rfl rfl ?_
  refine pm_R_get pm_M8 (pc' := 35) (v := .int 13) rfl rfl rfl (Nat.le_of_ble_eq_true rfl) (Nat.le_of_ble_eq_true rfl) rfl rfl ?_
  refine pm_R_op pm_M8 (pc' := 36) (st' := [.int 1, .int 13, .ref 17]) rfl rfl rfl ?_
  refine pm_R_op pm_M8 (pc' := 37) (st' := [.int 14, .ref 17]) rfl rfl rfl ?_
  refine pm_R_put pm_M8 (pc' := 40) (fs' := [.ref 18, .int 14, .int 0, .int (-1), .ref 19, .ref 20, .ref 21, .ref 22, .ref 23]) rfl rfl rfl rfl (Nat.le_of_ble_eq_true rfl) (Nat.le_of_ble_eq_true rfl) (Nat.le_of_ble_eq_true rfl) rfl (Or.inl rfl) rfl rfl ?_
  refine pm_R_lo pm_M8 (pc' := 43) (ls' := [.ref 17, .int x4, .int 8]) (st' := []) rfl rfl rfl ?_
  refine pm_R_br pm_M8 (pc' := 3) rfl rfl ?_
  refine pm_R_lo pm_M8 (pc' := 4) rfl rfl rfl ?_
  refine pm_R_br pm_M8 (pc' := 7) (st' := []) rfl rfl ?_
  refine pm_R_lo pm_M8 (pc' := 8) rfl rfl rfl ?_
  refine pm_R_get pm_M8 (pc' := 11) (v := .int 14) rfl rfl rfl (Nat.le_of_ble_eq_true rfl) (Nat.le_of_ble_eq_true rfl) rfl rfl ?_
  refine pm_R_op pm_M8 (pc' := 14) (st' := [.int 600, .int 14]) rfl rfl rfl ?_
  refine pm_R_br pm_M8 (pc' := 17) (st' := []) rfl rfl ?_
  refine pm_R_lo pm_M8 (pc' := 18) rfl rfl rfl ?_
  refine pm_R_get pm_M8 (pc' := 21) (v := .ref 18) rfl rfl rfl (Nat.le_of_ble_eq_true rfl) (Nat.le_of_ble_eq_true rfl) rfl rfl ?_
  refine pm_R_lo pm_M8 (pc' := 22) rfl rfl rfl ?_
  refine pm_R_get pm_M8 (pc' := 25) (v := .int 14) rfl rfl rfl (Nat.le_of_ble_eq_true rfl) (Nat.le_of_ble_eq_true rfl) rfl rfl ?_
  refine pm_R_lo pm_M8 (pc' := 26) rfl rfl rfl ?_
  refine pm_R_lo pm_M8 (pc' := 27) rfl rfl rfl ?_
  refine pm_R_op pm_M8 (pc' := 28) (st' := [.int ((Int32.toUInt32 (x4) >>> (Int32.toUInt32 (8) &&& Int32.toUInt32 31)).toInt32), .int 14, .ref 18]) rfl rfl rfl ?_
  refine pm_R_op pm_M8 (pc' := 29) (st' := [.int ((Int32.toInt8 (((Int32.toUInt32 (x4) >>> (Int32.toUInt32 (8) &&& Int32.toUInt32 31)).toInt32))).toInt32), .int 14, .ref 18]) rfl rfl rfl ?_
  refine pm_R_bast pm_M8 (pc' := 30) rfl rfl (Nat.le_of_ble_eq_true rfl) (Nat.le_of_ble_eq_true rfl) rfl rfl ?_
  refine pm_R_lo pm_M8 (pc' := 31) rfl rfl rfl ?_
  refine pm_R_op pm_M8 (pc' := 32) (st' := [.ref 17, .ref 17]) rfl rfl rfl ?_
  refine pm_R_get pm_M8 (pc' := 35) (v := .int 14) rfl rfl rfl (Nat.le_of_ble_eq_true rfl) (Nat.le_of_ble_eq_true rfl) rfl rfl ?_
  refine pm_R_op pm_M8 (pc' := 36) (st' := [.int 1, .int 14, .ref 17]) rfl rfl rfl ?_
  refine pm_R_op pm_M8 (pc' := 37) (st' := [.int 15, .ref 17]) rfl rfl rfl ?_
  refine pm_R_put pm_M8 (pc' := 40) (fs' := [.ref 18, .int 15, .int 0, .int (-1), .ref 19, .ref 20, .ref 21, .ref 22, .ref 23]) rfl rfl rfl rfl (Nat.le_of_ble_eq_true rfl) (Nat.le_of_ble_eq_true rfl) (Nat.le_of_ble_eq_true rfl) rfl (Or.inl rfl) rfl rfl ?_
  refine pm_R_lo pm_M8 (pc' := 43) (ls' := [.ref 17, .int x4, .int 0]) (st' := []) rfl rfl rfl ?_
  refine pm_R_br pm_M8 (pc' := 3) rfl rfl ?_
  refine pm_R_lo pm_M8 (pc' := 4) rfl rfl rfl ?_
  refine pm_R_br pm_M8 (pc' := 7) (st' := []) rfl rfl ?_
  refine pm_R_lo pm_M8 (pc' := 8) rfl rfl rfl ?_
  refine pm_R_get pm_M8 (pc' := 11) (v := .int 15) rfl rfl rfl (Nat.le_of_ble_eq_true rfl) (Nat.le_of_ble_eq_true rfl) rfl rfl ?_
  refine pm_R_op pm_M8 (pc' := 14) (st' := [.int 600, .int 15]) rfl rfl rfl ?_
  refine pm_R_br pm_M8 (pc' := 17) (st' := []) rfl rfl ?_
  refine pm_R_lo pm_M8 (pc' := 18) rfl rfl rfl ?_
  refine pm_R_get pm_M8 (pc' := 21) (v := .ref 18) rfl rfl rfl (Nat.le_of_ble_eq_true rfl) (Nat.le_of_ble_eq_true rfl) rfl rfl ?_
  refine pm_R_lo pm_M8 (pc' := 22) rfl rfl rfl ?_
  refine pm_R_get pm_M8 (pc' := 25) (v := .int 15) rfl rfl rfl (Nat.le_of_ble_eq_true rfl) (Nat.le_of_ble_eq_true rfl) rfl rfl ?_
  refine pm_R_lo pm_M8 (pc' := 26) rfl rfl rfl ?_
  refine pm_R_lo pm_M8 (pc' := 27) rfl rfl rfl ?_
  refine pm_R_op pm_M8 (pc' := 28) (st' := [.int ((Int32.toUInt32 (x4) >>> (Int32.toUInt32 (0) &&& Int32.toUInt32 31)).toInt32), .int 15, .ref 18]) rfl rfl rfl ?_
  refine pm_R_op pm_M8 (pc' := 29) (st' := [.int ((Int32.toInt8 (((Int32.toUInt32 (x4) >>> (Int32.toUInt32 (0) &&& Int32.toUInt32 31)).toInt32))).toInt32), .int 15, .ref 18]) rfl rfl rfl ?_
  refine pm_R_bast pm_M8 (pc' := 30) rfl rfl (Nat.le_of_ble_eq_true rfl) (Nat.le_of_ble_eq_true rfl) rfl rfl ?_
  refine pm_R_lo pm_M8 (pc' := 31) rfl rfl rfl ?_
  refine pm_R_op pm_M8 (pc' := 32) (st' := [.ref 17, .ref 17]) rfl rfl rfl ?_
  refine pm_R_get pm_M8 (pc' := 35) (v := .int 15) rfl rfl rfl (Nat.le_of_ble_eq_true rfl) (Nat.le_of_ble_eq_true rfl) rfl rfl ?_
  refine pm_R_op pm_M8 (pc' := 36) (st' := [.int 1, .int 15, .ref 17]) rfl rfl rfl ?_
  refine pm_R_op pm_M8 (pc' := 37) (st' := [.int 16, .ref 17]) rfl rfl rfl ?_
  refine pm_R_put pm_M8 (pc' := 40) (fs' := [.ref 18, .int 16, .int 0, .int (-1), .ref 19, .ref 20, .ref 21, .ref 22, .ref 23]) rfl rfl rfl rfl (Nat.le_of_ble_eq_true rfl) (Nat.le_of_ble_eq_true rfl) (Nat.le_of_ble_eq_true rfl) rfl (Or.inl rfl) rfl rfl ?_
  refine pm_R_lo pm_M8 (pc' := 43) (ls' := [.ref 17, .int x4, .int (-8)]) (st' := []) rfl rfl rfl ?_
  refine pm_R_br pm_M8 (pc' := 3) rfl rfl ?_
  refine pm_R_lo pm_M8 (pc' := 4) rfl rfl rfl ?_
  refine pm_R_br pm_M8 (pc' := 46) (st' := []) rfl rfl ?_
  refine pm_R_ret pm_M8 (r := none) rfl rfl ?_
  show pm_R _ 7 51 [.ref 16, .int x1, .int x2, .int x3, .int x4, .int x5] [] _ _
  refine pm_R_lo pm_M7 (pc' := 52) rfl rfl rfl ?_
  refine pm_R_get pm_M7 (pc' := 55) (v := .ref 17) rfl rfl (hh 16 (Nat.le_of_ble_eq_true rfl)) (Nat.le_of_ble_eq_true rfl) (Nat.le_of_ble_eq_true rfl) rfl rfl ?_
  refine pm_R_lo pm_M7 (pc' := 57) rfl rfl rfl ?_
  refine pm_R_cv pm_M7 (pc' := 60) (a := 17) (ra := [.int x5]) (rest := []) (ls' := [.ref 17, .int x5, pm_no]) rfl rfl (Or.inl rfl) pm_M8 rfl rfl (Nat.le_of_ble_eq_true rfl) (Nat.le_of_ble_eq_true rfl) rfl rfl (Nat.le_of_ble_eq_true rfl) rfl rfl ?_
  refine pm_R_op pm_M8 (pc' := 2) (st' := [.int 24]) rfl rfl rfl ?_
  refine pm_R_lo pm_M8 (pc' := 3) (ls' := [.ref 17, .int x5, .int 24]) (st' := []) rfl rfl rfl ?_
  refine pm_R_lo pm_M8 (pc' := 4) rfl rfl rfl ?_
  refine pm_R_br pm_M8 (pc' := 7) (st' := []) rfl rfl ?_
  refine pm_R_lo pm_M8 (pc' := 8) rfl rfl rfl ?_
  refine pm_R_get pm_M8 (pc' := 11) (v := .int 16) rfl rfl rfl (Nat.le_of_ble_eq_true rfl) (Nat.le_of_ble_eq_true rfl) rfl rfl ?_
  refine pm_R_op pm_M8 (pc' := 14) (st' := [.int 600, .int 16]) rfl rfl rfl ?_
  refine pm_R_br pm_M8 (pc' := 17) (st' := []) rfl rfl ?_
  refine pm_R_lo pm_M8 (pc' := 18) rfl rfl rfl ?_
  refine pm_R_get pm_M8 (pc' := 21) (v := .ref 18) rfl rfl rfl (Nat.le_of_ble_eq_true rfl) (Nat.le_of_ble_eq_true rfl) rfl rfl ?_
  refine pm_R_lo pm_M8 (pc' := 22) rfl rfl rfl ?_
  refine pm_R_get pm_M8 (pc' := 25) (v := .int 16) rfl rfl rfl (Nat.le_of_ble_eq_true rfl) (Nat.le_of_ble_eq_true rfl) rfl rfl ?_
  refine pm_R_lo pm_M8 (pc' := 26) rfl rfl rfl ?_
  refine pm_R_lo pm_M8 (pc' := 27) rfl rfl rfl ?_
  refine pm_R_op pm_M8 (pc' := 28) (st' := [.int ((Int32.toUInt32 (x5) >>> (Int32.toUInt32 (24) &&& Int32.toUInt32 31)).toInt32), .int 16, .ref 18]) rfl rfl rfl ?_
  refine pm_R_op pm_M8 (pc' := 29) (st' := [.int ((Int32.toInt8 (((Int32.toUInt32 (x5) >>> (Int32.toUInt32 (24) &&& Int32.toUInt32 31)).toInt32))).toInt32), .int 16, .ref 18]) rfl rfl rfl ?_
  refine pm_R_bast pm_M8 (pc' := 30) rfl rfl (Nat.le_of_ble_eq_true rfl) (Nat.le_of_ble_eq_true rfl) rfl rfl ?_
  refine pm_R_lo pm_M8 (pc' := 31) rfl rfl rfl ?_
  refine pm_R_op pm_M8 (pc' := 32) (st' := [.ref 17, .ref 17]) rfl rfl rfl ?_
  refine pm_R_get pm_M8 (pc' := 35) (v := .int 16) rfl rfl rfl (Nat.le_of_ble_eq_true rfl) (Nat.le_of_ble_eq_true rfl) rfl rfl ?_
  refine pm_R_op pm_M8 (pc' := 36) (st' := [.int 1, .int 16, .ref 17]) rfl rfl rfl ?_
  refine pm_R_op pm_M8 (pc' := 37) (st' := [.int 17, .ref 17]) rfl rfl rfl ?_
  refine pm_R_put pm_M8 (pc' := 40) (fs' := [.ref 18, .int 17, .int 0, .int (-1), .ref 19, .ref 20, .ref 21, .ref 22, .ref 23]) rfl rfl rfl rfl (Nat.le_of_ble_eq_true rfl) (Nat.le_of_ble_eq_true rfl) (Nat.le_of_ble_eq_true rfl) rfl (Or.inl rfl) rfl rfl ?_
  refine pm_R_lo pm_M8 (pc' := 43) (ls' := [.ref 17, .int x5, .int 16]) (st' := []) rfl rfl rfl ?_
  refine pm_R_br pm_M8 (pc' := 3) rfl rfl ?_
  refine pm_R_lo pm_M8 (pc' := 4) rfl rfl rfl ?_
  refine pm_R_br pm_M8 (pc' := 7) (st' := []) rfl rfl ?_
  refine pm_R_lo pm_M8 (pc' := 8) rfl rfl rfl ?_
  refine pm_R_get pm_M8 (pc' := 11) (v := .int 17) rfl rfl rfl (Nat.le_of_ble_eq_true rfl) (Nat.le_of_ble_eq_true rfl) rfl rfl ?_
  refine pm_R_op pm_M8 (pc' := 14) (st' := [.int 600, .int 17]) rfl rfl rfl ?_
  refine pm_R_br pm_M8 (pc' := 17) (st' := []) rfl rfl ?_
  refine pm_R_lo pm_M8 (pc' := 18) rfl rfl rfl ?_
  refine pm_R_get pm_M8 (pc' := 21) (v := .ref 18) rfl rfl rfl (Nat.le_of_ble_eq_true rfl) (Nat.le_of_ble_eq_true rfl) rfl rfl ?_
  refine pm_R_lo pm_M8 (pc' := 22) rfl rfl rfl ?_
  refine pm_R_get pm_M8 (pc' := 25) (v := .int 17) rfl rfl rfl (Nat.le_of_ble_eq_true rfl) (Nat.le_of_ble_eq_true rfl) rfl rfl ?_
  refine pm_R_lo pm_M8 (pc' := 26) rfl rfl rfl ?_
  refine pm_R_lo pm_M8 (pc' := 27) rfl rfl rfl ?_
  refine pm_R_op pm_M8 (pc' := 28) (st' := [.int ((Int32.toUInt32 (x5) >>> (Int32.toUInt32 (16) &&& Int32.toUInt32 31)).toInt32), .int 17, .ref 18]) rfl rfl rfl ?_
  refine pm_R_op pm_M8 (pc' := 29) (st' := [.int ((Int32.toInt8 (((Int32.toUInt32 (x5) >>> (Int32.toUInt32 (16) &&& Int32.toUInt32 31)).toInt32))).toInt32), .int 17, .ref 18]) rfl rfl rfl ?_
  refine pm_R_bast pm_M8 (pc' := 30) rfl rfl (Nat.le_of_ble_eq_true rfl) (Nat.le_of_ble_eq_true rfl) rfl rfl ?_
  refine pm_R_lo pm_M8 (pc' := 31) rfl rfl rfl ?_
  refine pm_R_op pm_M8 (pc' := 32) (st' := [.ref 17, .ref 17]) rfl rfl rfl ?_
  refine pm_R_get pm_M8 (pc' := 35) (v := .int 17) rfl rfl rfl (Nat.le_of_ble_eq_true rfl) (Nat.le_of_ble_eq_true rfl) rfl rfl ?_
  refine pm_R_op pm_M8 (pc' := 36) (st' := [.int 1, .int 17, .ref 17]) rfl rfl rfl ?_
  refine pm_R_op pm_M8 (pc' := 37) (st' := [.int 18, .ref 17]) rfl rfl rfl ?_
  refine pm_R_put pm_M8 (pc' := 40) (fs' := [.ref 18, .int 18, .int 0, .int (-1), .ref 19, .ref 20, .ref 21, .ref 22, .ref 23]) rfl rfl rfl rfl (Nat.le_of_ble_eq_true rfl) (Nat.le_of_ble_eq_true rfl) (Nat.le_of_ble_eq_true rfl) rfl (Or.inl rfl) rfl rfl ?_
  refine pm_R_lo pm_M8 (pc' := 43) (ls' := [.ref 17, .int x5, .int 8]) (st' := []) rfl rfl rfl ?_
  refine pm_R_br pm_M8 (pc' := 3) rfl rfl ?_
  refine pm_R_lo pm_M8 (pc' := 4) rfl rfl rfl ?_
  refine pm_R_br pm_M8 (pc' := 7) (st' := []) rfl rfl ?_
  refine pm_R_lo pm_M8 (pc' := 8) rfl rfl rfl ?_
  refine pm_R_get pm_M8 (pc' := 11) (v := .int 18) rfl rfl rfl (Nat.le_of_ble_eq_true rfl) (Nat.le_of_ble_eq_true rfl) rfl rfl ?_
  refine pm_R_op pm_M8 (pc' := 14) (st' := [.int 600, .int 18]) rfl rfl rfl ?_
  refine pm_R_br pm_M8 (pc' := 17) (st' := []) rfl rfl ?_
  refine pm_R_lo pm_M8 (pc' := 18) rfl rfl rfl ?_
  refine pm_R_get pm_M8 (pc' := 21) (v := .ref 18) rfl rfl rfl (Nat.le_of_ble_eq_true rfl) (Nat.le_of_ble_eq_true rfl) rfl rfl ?_
  refine pm_R_lo pm_M8 (pc' := 22) rfl rfl rfl ?_
  refine pm_R_get pm_M8 (pc' := 25) (v := .int 18) rfl rfl rfl (Nat.le_of_ble_eq_true rfl) (Nat.le_of_ble_eq_true rfl) rfl rfl ?_
  refine pm_R_lo pm_M8 (pc' := 26) rfl rfl rfl ?_
  refine pm_R_lo pm_M8 (pc' := 27) rfl rfl rfl ?_
  refine pm_R_op pm_M8 (pc' := 28) (st' := [.int ((Int32.toUInt32 (x5) >>> (Int32.toUInt32 (8) &&& Int32.toUInt32 31)).toInt32), .int 18, .ref 18]) rfl rfl rfl ?_
  refine pm_R_op pm_M8 (pc' := 29) (st' := [.int ((Int32.toInt8 (((Int32.toUInt32 (x5) >>> (Int32.toUInt32 (8) &&& Int32.toUInt32 31)).toInt32))).toInt32), .int 18, .ref 18]) rfl rfl rfl ?_
  refine pm_R_bast pm_M8 (pc' := 30) rfl rfl (Nat.le_of_ble_eq_true rfl) (Nat.le_of_ble_eq_true rfl) rfl rfl ?_
  refine pm_R_lo pm_M8 (pc' := 31) rfl rfl rfl ?_
  refine pm_R_op pm_M8 (pc' := 32) (st' := [.ref 17, .ref 17]) rfl rfl rfl ?_
  refine pm_R_get pm_M8 (pc' := 35) (v := .int 18) rfl rfl rfl (Nat.le_of_ble_eq_true rfl) (Nat.le_of_ble_eq_true rfl) rfl rfl ?_
  refine pm_R_op pm_M8 (pc' := 36) (st' := [.int 1, .int 18, .ref 17]) rfl rfl rfl ?_
  refine pm_R_op pm_M8 (pc' := 37) (st' := [.int 19, .ref 17]) rfl rfl rfl ?_
  refine pm_R_put pm_M8 (pc' := 40) (fs' := [.ref 18, .int 19, .int 0, .int (-1), .ref 19, .ref 20, .ref 21, .ref 22, .ref 23]) rfl rfl rfl rfl (Nat.le_of_ble_eq_true rfl) (Nat.le_of_ble_eq_true rfl) (Nat.le_of_ble_eq_true rfl) rfl (Or.inl rfl) rfl rfl ?_
  refine pm_R_lo pm_M8 (pc' := 43) (ls' := [.ref 17, .int x5, .int 0]) (st' := []) rfl rfl rfl ?_
  refine pm_R_br pm_M8 (pc' := 3) rfl rfl ?_
  refine pm_R_lo pm_M8 (pc' := 4) rfl rfl rfl ?_
  refine pm_R_br pm_M8 (pc' := 7) (st' := []) rfl rfl ?_
  refine pm_R_lo pm_M8 (pc' := 8) rfl rfl rfl ?_
  refine pm_R_get pm_M8 (pc' := 11) (v := .int 19) rfl rfl rfl (Nat.le_of_ble_eq_true rfl) (Nat.le_of_ble_eq_true rfl) rfl rfl ?_
  refine pm_R_op pm_M8 (pc' := 14) (st' := [.int 600, .int 19]) rfl rfl rfl ?_
  refine pm_R_br pm_M8 (pc' := 17) (st' := []) rfl rfl ?_
  refine pm_R_lo pm_M8 (pc' := 18) rfl rfl rfl ?_
  refine pm_R_get pm_M8 (pc' := 21) (v := .ref 18) rfl rfl rfl (Nat.le_of_ble_eq_true rfl) (Nat.le_of_ble_eq_true rfl) rfl rfl ?_
  refine pm_R_lo pm_M8 (pc' := 22) rfl rfl rfl ?_
  refine pm_R_get pm_M8 (pc' := 25) (v := .int 19) rfl rfl rfl (Nat.le_of_ble_eq_true rfl) (Nat.le_of_ble_eq_true rfl) rfl rfl ?_
  refine pm_R_lo pm_M8 (pc' := 26) rfl rfl rfl ?_
  refine pm_R_lo pm_M8 (pc' := 27) rfl rfl rfl ?_
  refine pm_R_op pm_M8 (pc' := 28) (st' := [.int ((Int32.toUInt32 (x5) >>> (Int32.toUInt32 (0) &&& Int32.toUInt32 31)).toInt32), .int 19, .ref 18]) rfl rfl rfl ?_
  refine pm_R_op pm_M8 (pc' := 29) (st' := [.int ((Int32.toInt8 (((Int32.toUInt32 (x5) >>> (Int32.toUInt32 (0) &&& Int32.toUInt32 31)).toInt32))).toInt32), .int 19, .ref 18]) rfl rfl rfl ?_
  refine pm_R_bast pm_M8 (pc' := 30) rfl rfl (Nat.le_of_ble_eq_true rfl) (Nat.le_of_ble_eq_true rfl) rfl rfl ?_
  refine pm_R_lo pm_M8 (pc' := 31) rfl rfl rfl ?_
  refine pm_R_op pm_M8 (pc' := 32) (st' := [.ref 17, .ref 17]) rfl rfl rfl ?_
  refine pm_R_get pm_M8 (pc' := 35) (v := .int 19) rfl rfl rfl (Nat.le_of_ble_eq_true rfl) (Nat.le_of_ble_eq_true rfl) rfl rfl ?_
  refine pm_R_op pm_M8 (pc' := 36) (st' := [.int 1, .int 19, .ref 17]) rfl rfl rfl ?_
  refine pm_R_op pm_M8 (pc' := 37) (st' := [.int 20, .ref 17]) rfl rfl rfl ?_
  refine pm_R_put pm_M8 (pc' := 40) (fs' := [.ref 18, .int 20, .int 0, .int (-1), .ref 19, .ref 20, .ref 21, .ref 22, .ref 23]) rfl rfl rfl rfl (Nat.le_of_ble_eq_true rfl) (Nat.le_of_ble_eq_true rfl) (Nat.le_of_ble_eq_true rfl) rfl (Or.inl rfl) rfl rfl ?_
  refine pm_R_lo pm_M8 (pc' := 43) (ls' := [.ref 17, .int x5, .int (-8)]) (st' := []) rfl rfl rfl ?_
  refine pm_R_br pm_M8 (pc' := 3) rfl rfl ?_
  refine pm_R_lo pm_M8 (pc' := 4) rfl rfl rfl ?_
  refine pm_R_br pm_M8 (pc' := 46) (st' := []) rfl rfl ?_
  refine pm_R_ret pm_M8 (r := none) rfl rfl ?_
  show pm_R _ 7 60 [.ref 16, .int x1, .int x2, .int x3, .int x4, .int x5] [] _ _
  refine pm_R_lo pm_M7 (pc' := 61) rfl rfl rfl ?_
  refine pm_R_get pm_M7 (pc' := 64) (v := .ref 17) rfl rfl (hh 16 (Nat.le_of_ble_eq_true rfl)) (Nat.le_of_ble_eq_true rfl) (Nat.le_of_ble_eq_true rfl) rfl rfl ?_
  refine pm_R_get pm_M7 (pc' := 67) (v := .int 20) rfl rfl rfl (Nat.le_of_ble_eq_true rfl) (Nat.le_of_ble_eq_true rfl) rfl rfl ?_
  refine pm_R_ret pm_M7 (r := some (.int 20)) rfl rfl ?_
  show pm_R _ 0 249 [.ref 0, .ref 16, .ref 41, .int 0] [.int 20] _ _
  refine pm_R_lo pm_M0 (pc' := 250) rfl rfl rfl ?_
  refine pm_R_lo pm_M0 (pc' := 251) rfl rfl rfl ?_
  refine pm_R_lo pm_M0 (pc' := 252) rfl rfl rfl ?_
  refine pm_R_op pm_M0 (pc' := 253) (st' := [.int 1, .int 0, .ref 0, .ref 41, .int 20]) rfl rfl rfl ?_
  refine pm_R_op pm_M0 (pc' := 254) (st' := [.int 1, .ref 0, .ref 41, .int 20]) rfl rfl rfl ?_
  refine pm_R_iald pm_M0 (pc' := 255) (v := x1) rfl (hh 0 (Nat.le_of_ble_eq_true rfl)) (Nat.le_of_ble_eq_true rfl) rfl hx1 rfl ?_
  refine pm_R_lo pm_M0 (pc' := 256) rfl rfl rfl ?_
  refine pm_R_lo pm_M0 (pc' := 257) rfl rfl rfl ?_
  refine pm_R_op pm_M0 (pc' := 258) (st' := [.int 2, .int 0, .ref 0, .int x1, .ref 41, .int 20]) rfl rfl rfl ?_
  refine pm_R_op pm_M0 (pc' := 259) (st' := [.int 2, .ref 0, .int x1, .ref 41, .int 20]) rfl rfl rfl ?_
  refine pm_R_iald pm_M0 (pc' := 260) (v := x2) rfl (hh 0 (Nat.le_of_ble_eq_true rfl)) (Nat.le_of_ble_eq_true rfl) rfl hx2 rfl ?_
  refine pm_R_lo pm_M0 (pc' := 261) (pm_q0_1 (Nat.le_of_ble_eq_true rfl)) rfl rfl ?_
  refine pm_R_lo pm_M0 (pc' := 262) (pm_q0_1 (Nat.le_of_ble_eq_true rfl)) rfl rfl ?_
  refine pm_R_op pm_M0 (pc' := 263) (st' := [.int 3, .int 0, .ref 0, .int x2, .int x1, .ref 41, .int 20]) (pm_q0_1 (Nat.le_of_ble_eq_true rfl)) rfl rfl ?_
  refine pm_R_op pm_M0 (pc' := 264) (st' := [.int 3, .ref 0, .int x2, .int x1, .ref 41, .int 20]) (pm_q0_1 (Nat.le_of_ble_eq_true rfl)) rfl rfl ?_
  refine pm_R_iald pm_M0 (pc' := 265) (v := x3) (pm_q0_1 (Nat.le_of_ble_eq_true rfl)) (hh 0 (Nat.le_of_ble_eq_true rfl)) (Nat.le_of_ble_eq_true rfl) rfl hx3 rfl ?_
  refine pm_R_lo pm_M0 (pc' := 266) (pm_q0_1 (Nat.le_of_ble_eq_true rfl)) rfl rfl ?_
  refine pm_R_lo pm_M0 (pc' := 267) (pm_q0_1 (Nat.le_of_ble_eq_true rfl)) rfl rfl ?_
  refine pm_R_op pm_M0 (pc' := 268) (st' := [.int 4, .int 0, .ref 0, .int x3, .int x2, .int x1, .ref 41, .int 20]) (pm_q0_1 (Nat.le_of_ble_eq_true rfl)) rfl rfl ?_
  refine pm_R_op pm_M0 (pc' := 269) (st' := [.int 4, .ref 0, .int x3, .int x2, .int x1, .ref 41, .int 20]) (pm_q0_1 (Nat.le_of_ble_eq_true rfl)) rfl rfl ?_
  refine pm_R_iald pm_M0 (pc' := 270) (v := x4) (pm_q0_1 (Nat.le_of_ble_eq_true rfl)) (hh 0 (Nat.le_of_ble_eq_true rfl)) (Nat.le_of_ble_eq_true rfl) rfl hx4 rfl ?_
  refine pm_R_lo pm_M0 (pc' := 271) (pm_q0_1 (Nat.le_of_ble_eq_true rfl)) rfl rfl ?_
  refine pm_R_lo pm_M0 (pc' := 272) (pm_q0_1 (Nat.le_of_ble_eq_true rfl)) rfl rfl ?_
  refine pm_R_op pm_M0 (pc' := 273) (st' := [.int 5, .int 0, .ref 0, .int x4, .int x3, .int x2, .int x1, .ref 41, .int 20]) (pm_q0_1 (Nat.le_of_ble_eq_true rfl)) rfl rfl ?_
  refine pm_R_op pm_M0 (pc' := 274) (st' := [.int 5, .ref 0, .int x4, .int x3, .int x2, .int x1, .ref 41, .int 20]) (pm_q0_1 (Nat.le_of_ble_eq_true rfl)) rfl rfl ?_
  refine pm_R_iald pm_M0 (pc' := 275) (v := x5) (pm_q0_1 (Nat.le_of_ble_eq_true rfl)) (hh 0 (Nat.le_of_ble_eq_true rfl)) (Nat.le_of_ble_eq_true rfl) rfl hx5 rfl ?_
  refine pm_R_cv pm_M0 (pc' := 278) (a := 41) (ra := [.int x5, .int x4, .int x3, .int x2, .int x1]) (rest := [.int 20]) (ls' := [.ref 41, .int x1, .int x2, .int x3, .int x4, .int x5]) (pm_q0_1 (Nat.le_of_ble_eq_true rfl)) rfl (Or.inl rfl) pm_M171 (hh 41 (Nat.le_of_ble_eq_true rfl)) rfl (Nat.le_of_ble_eq_true rfl) (Nat.le_of_ble_eq_true rfl) rfl rfl (Nat.le_of_ble_eq_true rfl) rfl rfl ?_
  refine pm_R_lo pm_M171 (pc' := 1) rfl rfl rfl ?_
  refine pm_R_op pm_M171 (pc' := 2) (st' := [.int 0, .ref 41]) rfl rfl rfl ?_
  refine pm_R_put pm_M171 (pc' := 5) (fs' := [.int 0, .ref 42, .ref 43, .ref 44, .ref 45, .ref 46, .ref 47, .ref 48, .ref 49, .ref 50, .int 0, .int 0, .int 0, .int 0, .int 0, .long 0, .int 0, .int 0, .int 0, .ref 51, .ref 52, .int 0, .int 0, .int 0, .int 0, .ref 53, .int 0, .int 0, .ref 54, .ref 55, .ref 56, .int 0, .ref 57, .ref 58, .ref 59, .ref 60, .ref 61, .ref 62, .ref 63, .ref 64, .ref 65, .ref 66, .int 0, .int 0, .int 0, .ref 67, .ref 68, .int 0, .ref 69, .int 0, .int 0, .ref 70, .ref 71]) rfl rfl rfl (hh 41 (Nat.le_of_ble_eq_true rfl)) (Nat.le_of_ble_eq_true rfl) (Nat.le_of_ble_eq_true rfl) (Nat.le_of_ble_eq_true rfl) rfl (Or.inl rfl) rfl rfl ?_
  refine pm_R_lo pm_M171 (pc' := 6) rfl rfl rfl ?_
  refine pm_R_get pm_M171 (pc' := 9) (v := .ref 43) rfl rfl rfl (Nat.le_of_ble_eq_true rfl) (Nat.le_of_ble_eq_true rfl) rfl rfl ?_
  refine pm_R_op pm_M171 (pc' := 10) (st' := [.int 0, .ref 43]) rfl rfl rfl ?_
  refine pm_R_iald pm_M171 (pc' := 11) (v := 0) rfl (hh 43 (Nat.le_of_ble_eq_true rfl)) (Nat.le_of_ble_eq_true rfl) rfl rfl rfl ?_
  refine pm_R_op pm_M171 (pc' := 13) (st' := [.int 20, .int 0]) rfl rfl rfl ?_
  refine pm_R_op pm_M171 (pc' := 14) (st' := [.int 20]) rfl rfl rfl ?_
  refine pm_R_op pm_M171 (pc' := 17) (st' := [.int 600, .int 20]) rfl rfl rfl ?_
  refine pm_R_br pm_M171 (pc' := 22) (st' := []) rfl rfl ?_
  refine pm_R_lo pm_M171 (pc' := 23) rfl rfl rfl ?_
  refine pm_R_lo pm_M171 (pc' := 24) rfl rfl rfl ?_
  refine pm_R_cv pm_M171 (pc' := 27) (a := 41) (ra := [.int x1]) (rest := []) (ls' := [.ref 41, .int x1, pm_no]) rfl rfl (Or.inl rfl) pm_M172 rfl rfl (Nat.le_of_ble_eq_true rfl) (Nat.le_of_ble_eq_true rfl) rfl rfl (Nat.le_of_ble_eq_true rfl) rfl rfl ?_
  refine pm_R_op pm_M172 (pc' := 2) (st' := [.int 24]) rfl rfl rfl ?_
  refine pm_R_lo pm_M172 (pc' := 3) (ls' := [.ref 41, .int x1, .int 24]) (st' := []) rfl rfl rfl ?_
  refine pm_R_lo pm_M172 (pc' := 4) rfl rfl rfl ?_
  refine pm_R_br pm_M172 (pc' := 7) (st' := []) rfl rfl ?_
  refine pm_R_lo pm_M172 (pc' := 8) rfl rfl rfl ?_
  refine pm_R_get pm_M172 (pc' := 11) (v := .ref 42) rfl rfl rfl (Nat.le_of_ble_eq_true rfl) (Nat.le_of_ble_eq_true rfl) rfl rfl ?_
  refine pm_R_lo pm_M172 (pc' := 12) rfl rfl rfl ?_
  refine pm_R_get pm_M172 (pc' := 15) (v := .ref 43) rfl rfl rfl (Nat.le_of_ble_eq_true rfl) (Nat.le_of_ble_eq_true rfl) rfl rfl ?_
  refine pm_R_op pm_M172 (pc' := 16) (st' := [.int 0, .ref 43, .ref 42]) rfl rfl rfl ?_
  refine pm_R_iald pm_M172 (pc' := 17) (v := 0) rfl (hh 43 (Nat.le_of_ble_eq_true rfl)) (Nat.le_of_ble_eq_true rfl) rfl rfl rfl ?_
  refine pm_R_lo pm_M172 (pc' := 18) rfl rfl rfl ?_
  refine pm_R_lo pm_M172 (pc' := 19) rfl rfl rfl ?_
  refine pm_R_op pm_M172 (pc' := 20) (st' := [.int (x1 >>> (24 &&& 31)), .int 0, .ref 42]) rfl rfl rfl ?_
  refine pm_R_op pm_M172 (pc' := 21) (st' := [.int ((Int32.toInt8 ((x1 >>> (24 &&& 31)))).toInt32), .int 0, .ref 42]) rfl rfl rfl ?_
  refine pm_R_bast pm_M172 (pc' := 22) rfl (hh 42 (Nat.le_of_ble_eq_true rfl)) (Nat.le_of_ble_eq_true rfl) (Nat.le_of_ble_eq_true rfl) rfl rfl ?_
  refine pm_R_lo pm_M172 (pc' := 23) rfl rfl rfl ?_
  refine pm_R_get pm_M172 (pc' := 26) (v := .ref 43) rfl rfl rfl (Nat.le_of_ble_eq_true rfl) (Nat.le_of_ble_eq_true rfl) rfl rfl ?_
  refine pm_R_op pm_M172 (pc' := 27) (st' := [.int 0, .ref 43]) rfl rfl rfl ?_
  refine pm_R_op pm_M172 (pc' := 28) (st' := [.int 0, .ref 43, .int 0, .ref 43]) rfl rfl rfl ?_
  refine pm_R_iald pm_M172 (pc' := 29) (v := 0) rfl (hh 43 (Nat.le_of_ble_eq_true rfl)) (Nat.le_of_ble_eq_true rfl) rfl rfl rfl ?_
  refine pm_R_op pm_M172 (pc' := 30) (st' := [.int 1, .int 0, .int 0, .ref 43]) rfl rfl rfl ?_
  refine pm_R_op pm_M172 (pc' := 31) (st' := [.int 1, .int 0, .ref 43]) rfl rfl rfl ?_
  refine pm_R_iast pm_M172 (pc' := 32) rfl (hh 43 (Nat.le_of_ble_eq_true rfl)) (Nat.le_of_ble_eq_true rfl) (Nat.le_of_ble_eq_true rfl) rfl rfl ?_
  refine pm_R_lo pm_M172 (pc' := 35) (ls' := [.ref 41, .int x1, .int 16]) (st' := []) rfl rfl rfl ?_
  refine pm_R_br pm_M172 (pc' := 3) rfl rfl ?_
  refine pm_R_lo pm_M172 (pc' := 4) rfl rfl rfl ?_
  refine pm_R_br pm_M172 (pc' := 7) (st' := []) rfl rfl ?_
  refine pm_R_lo pm_M172 (pc' := 8) rfl rfl rfl ?_
  refine pm_R_get pm_M172 (pc' := 11) (v := .ref 42) rfl rfl rfl (Nat.le_of_ble_eq_true rfl) (Nat.le_of_ble_eq_true rfl) rfl rfl ?_
  refine pm_R_lo pm_M172 (pc' := 12) rfl rfl rfl ?_
  refine pm_R_get pm_M172 (pc' := 15) (v := .ref 43) rfl rfl rfl (Nat.le_of_ble_eq_true rfl) (Nat.le_of_ble_eq_true rfl) rfl rfl ?_
  refine pm_R_op pm_M172 (pc' := 16) (st' := [.int 0, .ref 43, .ref 42]) rfl rfl rfl ?_
  refine pm_R_iald pm_M172 (pc' := 17) (v := 1) rfl rfl (Nat.le_of_ble_eq_true rfl) rfl rfl rfl ?_
  refine pm_R_lo pm_M172 (pc' := 18) rfl rfl rfl ?_
  refine pm_R_lo pm_M172 (pc' := 19) rfl rfl rfl ?_
  refine pm_R_op pm_M172 (pc' := 20) (st' := [.int (x1 >>> (16 &&& 31)), .int 1, .ref 42]) rfl rfl rfl ?_
  refine pm_R_op pm_M172 (pc' := 21) (st' := [.int ((Int32.toInt8 ((x1 >>> (16 &&& 31)))).toInt32), .int 1, .ref 42]) rfl rfl rfl ?_
  refine pm_R_bast pm_M172 (pc' := 22) rfl rfl (Nat.le_of_ble_eq_true rfl) (Nat.le_of_ble_eq_true rfl) rfl rfl ?_
  refine pm_R_lo pm_M172 (pc' := 23) rfl rfl rfl ?_
  refine pm_R_get pm_M172 (pc' := 26) (v := .ref 43) rfl rfl rfl (Nat.le_of_ble_eq_true rfl) (Nat.le_of_ble_eq_true rfl) rfl rfl ?_
  refine pm_R_op pm_M172 (pc' := 27) (st' := [.int 0, .ref 43]) rfl rfl rfl ?_
  refine pm_R_op pm_M172 (pc' := 28) (st' := [.int 0, .ref 43, .int 0, .ref 43]) rfl rfl rfl ?_
  refine pm_R_iald pm_M172 (pc' := 29) (v := 1) rfl rfl (Nat.le_of_ble_eq_true rfl) rfl rfl rfl ?_
  refine pm_R_op pm_M172 (pc' := 30) (st' := [.int 1, .int 1, .int 0, .ref 43]) rfl rfl rfl ?_
  refine pm_R_op pm_M172 (pc' := 31) (st' := [.int 2, .int 0, .ref 43]) rfl rfl rfl ?_
  refine pm_R_iast pm_M172 (pc' := 32) rfl rfl (Nat.le_of_ble_eq_true rfl) (Nat.le_of_ble_eq_true rfl) rfl rfl ?_
  refine pm_R_lo pm_M172 (pc' := 35) (ls' := [.ref 41, .int x1, .int 8]) (st' := []) rfl rfl rfl ?_
  refine pm_R_br pm_M172 (pc' := 3) rfl rfl ?_
  refine pm_R_lo pm_M172 (pc' := 4) rfl rfl rfl ?_
  refine pm_R_br pm_M172 (pc' := 7) (st' := []) rfl rfl ?_
  refine pm_R_lo pm_M172 (pc' := 8) rfl rfl rfl ?_
  refine pm_R_get pm_M172 (pc' := 11) (v := .ref 42) rfl rfl rfl (Nat.le_of_ble_eq_true rfl) (Nat.le_of_ble_eq_true rfl) rfl rfl ?_
  refine pm_R_lo pm_M172 (pc' := 12) rfl rfl rfl ?_
  refine pm_R_get pm_M172 (pc' := 15) (v := .ref 43) rfl rfl rfl (Nat.le_of_ble_eq_true rfl) (Nat.le_of_ble_eq_true rfl) rfl rfl ?_
  refine pm_R_op pm_M172 (pc' := 16) (st' := [.int 0, .ref 43, .ref 42]) rfl rfl rfl ?_
  refine pm_R_iald pm_M172 (pc' := 17) (v := 2) rfl rfl (Nat.le_of_ble_eq_true rfl) rfl rfl rfl ?_
  refine pm_R_lo pm_M172 (pc' := 18) rfl rfl rfl ?_
  refine pm_R_lo pm_M172 (pc' := 19) rfl rfl rfl ?_
  refine pm_R_op pm_M172 (pc' := 20) (st' := [.int (x1 >>> (8 &&& 31)), .int 2, .ref 42]) rfl rfl rfl ?_
  refine pm_R_op pm_M172 (pc' := 21) (st' := [.int ((Int32.toInt8 ((x1 >>> (8 &&& 31)))).toInt32), .int 2, .ref 42]) rfl rfl rfl ?_
  refine pm_R_bast pm_M172 (pc' := 22) rfl rfl (Nat.le_of_ble_eq_true rfl) (Nat.le_of_ble_eq_true rfl) rfl rfl ?_
  refine pm_R_lo pm_M172 (pc' := 23) rfl rfl rfl ?_
  refine pm_R_get pm_M172 (pc' := 26) (v := .ref 43) rfl rfl rfl (Nat.le_of_ble_eq_true rfl) (Nat.le_of_ble_eq_true rfl) rfl rfl ?_
  refine pm_R_op pm_M172 (pc' := 27) (st' := [.int 0, .ref 43]) rfl rfl rfl ?_
  refine pm_R_op pm_M172 (pc' := 28) (st' := [.int 0, .ref 43, .int 0, .ref 43]) rfl rfl rfl ?_
  refine pm_R_iald pm_M172 (pc' := 29) (v := 2) rfl rfl (Nat.le_of_ble_eq_true rfl) rfl rfl rfl ?_
  refine pm_R_op pm_M172 (pc' := 30) (st' := [.int 1, .int 2, .int 0, .ref 43]) rfl rfl rfl ?_
  refine pm_R_op pm_M172 (pc' := 31) (st' := [.int 3, .int 0, .ref 43]) rfl rfl rfl ?_
  refine pm_R_iast pm_M172 (pc' := 32) rfl rfl (Nat.le_of_ble_eq_true rfl) (Nat.le_of_ble_eq_true rfl) rfl rfl ?_
  refine pm_R_lo pm_M172 (pc' := 35) (ls' := [.ref 41, .int x1, .int 0]) (st' := []) rfl rfl rfl ?_
  refine pm_R_br pm_M172 (pc' := 3) rfl rfl ?_
  refine pm_R_lo pm_M172 (pc' := 4) rfl rfl rfl ?_
  refine pm_R_br pm_M172 (pc' := 7) (st' := []) rfl rfl ?_
  refine pm_R_lo pm_M172 (pc' := 8) rfl rfl rfl ?_
  refine pm_R_get pm_M172 (pc' := 11) (v := .ref 42) rfl rfl rfl (Nat.le_of_ble_eq_true rfl) (Nat.le_of_ble_eq_true rfl) rfl rfl ?_
  refine pm_R_lo pm_M172 (pc' := 12) rfl rfl rfl ?_
  refine pm_R_get pm_M172 (pc' := 15) (v := .ref 43) rfl rfl rfl (Nat.le_of_ble_eq_true rfl) (Nat.le_of_ble_eq_true rfl) rfl rfl ?_
  refine pm_R_op pm_M172 (pc' := 16) (st' := [.int 0, .ref 43, .ref 42]) rfl rfl rfl ?_
  refine pm_R_iald pm_M172 (pc' := 17) (v := 3) rfl rfl (Nat.le_of_ble_eq_true rfl) rfl rfl rfl ?_
  refine pm_R_lo pm_M172 (pc' := 18) rfl rfl rfl ?_
  refine pm_R_lo pm_M172 (pc' := 19) rfl rfl rfl ?_
  refine pm_R_op pm_M172 (pc' := 20) (st' := [.int (x1 >>> (0 &&& 31)), .int 3, .ref 42]) rfl rfl rfl ?_
  refine pm_R_op pm_M172 (pc' := 21) (st' := [.int ((Int32.toInt8 ((x1 >>> (0 &&& 31)))).toInt32), .int 3, .ref 42]) rfl rfl rfl ?_
  refine pm_R_bast pm_M172 (pc' := 22) rfl rfl (Nat.le_of_ble_eq_true rfl) (Nat.le_of_ble_eq_true rfl) rfl rfl ?_
  refine pm_R_lo pm_M172 (pc' := 23) rfl rfl rfl ?_
  refine pm_R_get pm_M172 (pc' := 26) (v := .ref 43) rfl rfl rfl (Nat.le_of_ble_eq_true rfl) (Nat.le_of_ble_eq_true rfl) rfl rfl ?_
  refine pm_R_op pm_M172 (pc' := 27) (st' := [.int 0, .ref 43]) rfl rfl rfl ?_
  refine pm_R_op pm_M172 (pc' := 28) (st' := [.int 0, .ref 43, .int 0, .ref 43]) rfl rfl rfl ?_
  refine pm_R_iald pm_M172 (pc' := 29) (v := 3) rfl rfl (Nat.le_of_ble_eq_true rfl) rfl rfl rfl ?_
  refine pm_R_op pm_M172 (pc' := 30) (st' := [.int 1, .int 3, .int 0, .ref 43]) rfl rfl rfl ?_
  refine pm_R_op pm_M172 (pc' := 31) (st' := [.int 4, .int 0, .ref 43]) rfl rfl rfl ?_
  refine pm_R_iast pm_M172 (pc' := 32) rfl rfl (Nat.le_of_ble_eq_true rfl) (Nat.le_of_ble_eq_true rfl) rfl rfl ?_
  refine pm_R_lo pm_M172 (pc' := 35) (ls' := [.ref 41, .int x1, .int (-8)]) (st' := []) rfl rfl rfl ?_
  refine pm_R_br pm_M172 (pc' := 3) rfl rfl ?_
  refine pm_R_lo pm_M172 (pc' := 4) rfl rfl rfl ?_
  refine pm_R_br pm_M172 (pc' := 38) (st' := []) rfl rfl ?_
  refine pm_R_ret pm_M172 (r := none) rfl rfl ?_
  show pm_R _ 171 27 [.ref 41, .int x1, .int x2, .int x3, .int x4, .int x5] [] _ _
  refine pm_R_lo pm_M171 (pc' := 28) rfl rfl rfl ?_
  refine pm_R_lo pm_M171 (pc' := 29) rfl rfl rfl ?_
  refine pm_R_cv pm_M171 (pc' := 32) (a := 41) (ra := [.int x2]) (rest := []) (ls' := [.ref 41, .int x2, pm_no]) rfl rfl (Or.inl rfl) pm_M172 rfl rfl (Nat.le_of_ble_eq_true rfl) (Nat.le_of_ble_eq_true rfl) rfl rfl (Nat.le_of_ble_eq_true rfl) rfl rfl ?_
  refine pm_R_op pm_M172 (pc' := 2) (st' := [.int 24]) rfl rfl rfl ?_
  refine pm_R_lo pm_M172 (pc' := 3) (ls' := [.ref 41, .int x2, .int 24]) (st' := []) rfl rfl rfl ?_
  refine pm_R_lo pm_M172 (pc' := 4) rfl rfl rfl ?_
  refine pm_R_br pm_M172 (pc' := 7) (st' := []) rfl rfl ?_
  refine pm_R_lo pm_M172 (pc' := 8) rfl rfl rfl ?_
  refine pm_R_get pm_M172 (pc' := 11) (v := .ref 42) rfl rfl rfl (Nat.le_of_ble_eq_true rfl) (Nat.le_of_ble_eq_true rfl) rfl rfl ?_
  refine pm_R_lo pm_M172 (pc' := 12) rfl rfl rfl ?_
  refine pm_R_get pm_M172 (pc' := 15) (v := .ref 43) rfl rfl rfl (Nat.le_of_ble_eq_true rfl) (Nat.le_of_ble_eq_true rfl) rfl rfl ?_
  refine pm_R_op pm_M172 (pc' := 16) (st' := [.int 0, .ref 43, .ref 42]) rfl rfl rfl ?_
  refine pm_R_iald pm_M172 (pc' := 17) (v := 4) rfl rfl (Nat.le_of_ble_eq_true rfl) rfl rfl rfl ?_
  refine pm_R_lo pm_M172 (pc' := 18) rfl rfl rfl ?_
  refine pm_R_lo pm_M172 (pc' := 19) rfl rfl rfl ?_
  refine pm_R_op pm_M172 (pc' := 20) (st' := [.int (x2 >>> (24 &&& 31)), .int 4, .ref 42]) rfl rfl rfl ?_
  refine pm_R_op pm_M172 (pc' := 21) (st' := [.int ((Int32.toInt8 ((x2 >>> (24 &&& 31)))).toInt32), .int 4, .ref 42]) rfl rfl rfl ?_
  refine pm_R_bast pm_M172 (pc' := 22) rfl rfl (Nat.le_of_ble_eq_true rfl) (Nat.le_of_ble_eq_true rfl) rfl rfl ?_
  refine pm_R_lo pm_M172 (pc' := 23) rfl rfl rfl ?_
  refine pm_R_get pm_M172 (pc' := 26) (v := .ref 43) rfl rfl rfl (Nat.le_of_ble_eq_true rfl) (Nat.le_of_ble_eq_true rfl) rfl rfl ?_
  refine pm_R_op pm_M172 (pc' := 27) (st' := [.int 0, .ref 43]) rfl rfl rfl ?_
  refine pm_R_op pm_M172 (pc' := 28) (st' := [.int 0, .ref 43, .int 0, .ref 43]) rfl rfl rfl ?_
  refine pm_R_iald pm_M172 (pc' := 29) (v := 4) rfl rfl (Nat.le_of_ble_eq_true rfl) rfl rfl rfl ?_
  refine pm_R_op pm_M172 (pc' := 30) (st' := [.int 1, .int 4, .int 0, .ref 43]) rfl rfl rfl ?_
  refine pm_R_op pm_M172 (pc' := 31) (st' := [.int 5, .int 0, .ref 43]) rfl rfl rfl ?_
  refine pm_R_iast pm_M172 (pc' := 32) rfl rfl (Nat.le_of_ble_eq_true rfl) (Nat.le_of_ble_eq_true rfl) rfl rfl ?_
  refine pm_R_lo pm_M172 (pc' := 35) (ls' := [.ref 41, .int x2, .int 16]) (st' := []) rfl rfl rfl ?_
  refine pm_R_br pm_M172 (pc' := 3) rfl rfl ?_
  refine pm_R_lo pm_M172 (pc' := 4) rfl rfl rfl ?_
  refine pm_R_br pm_M172 (pc' := 7) (st' := []) rfl rfl ?_
  refine pm_R_lo pm_M172 (pc' := 8) rfl rfl rfl ?_
  refine pm_R_get pm_M172 (pc' := 11) (v := .ref 42) rfl rfl rfl (Nat.le_of_ble_eq_true rfl) (Nat.le_of_ble_eq_true rfl) rfl rfl ?_
  refine pm_R_lo pm_M172 (pc' := 12) rfl rfl rfl ?_
  refine pm_R_get pm_M172 (pc' := 15) (v := .ref 43) rfl rfl rfl (Nat.le_of_ble_eq_true rfl) (Nat.le_of_ble_eq_true rfl) rfl rfl ?_
  refine pm_R_op pm_M172 (pc' := 16) (st' := [.int 0, .ref 43, .ref 42]) rfl rfl rfl ?_
  refine pm_R_iald pm_M172 (pc' := 17) (v := 5) rfl rfl (Nat.le_of_ble_eq_true rfl) rfl rfl rfl ?_
  refine pm_R_lo pm_M172 (pc' := 18) rfl rfl rfl ?_
  refine pm_R_lo pm_M172 (pc' := 19) rfl rfl rfl ?_
  refine pm_R_op pm_M172 (pc' := 20) (st' := [.int (x2 >>> (16 &&& 31)), .int 5, .ref 42]) rfl rfl rfl ?_
  refine pm_R_op pm_M172 (pc' := 21) (st' := [.int ((Int32.toInt8 ((x2 >>> (16 &&& 31)))).toInt32), .int 5, .ref 42]) rfl rfl rfl ?_
  refine pm_R_bast pm_M172 (pc' := 22) rfl rfl (Nat.le_of_ble_eq_true rfl) (Nat.le_of_ble_eq_true rfl) rfl rfl ?_
  refine pm_R_lo pm_M172 (pc' := 23) rfl rfl rfl ?_
  refine pm_R_get pm_M172 (pc' := 26) (v := .ref 43) rfl rfl rfl (Nat.le_of_ble_eq_true rfl) (Nat.le_of_ble_eq_true rfl) rfl rfl ?_
  refine pm_R_op pm_M172 (pc' := 27) (st' := [.int 0, .ref 43]) rfl rfl rfl ?_
  refine pm_R_op pm_M172 (pc' := 28) (st' := [.int 0, .ref 43, .int 0, .ref 43]) rfl rfl rfl ?_
  refine pm_R_iald pm_M172 (pc' := 29) (v := 5) rfl rfl (Nat.le_of_ble_eq_true rfl) rfl rfl rfl ?_
  refine pm_R_op pm_M172 (pc' := 30) (st' := [.int 1, .int 5, .int 0, .ref 43]) rfl rfl rfl ?_
  refine pm_R_op pm_M172 (pc' := 31) (st' := [.int 6, .int 0, .ref 43]) rfl rfl rfl ?_
  refine pm_R_iast pm_M172 (pc' := 32) rfl rfl (Nat.le_of_ble_eq_true rfl) (Nat.le_of_ble_eq_true rfl) rfl rfl ?_
  refine pm_R_lo pm_M172 (pc' := 35) (ls' := [.ref 41, .int x2, .int 8]) (st' := []) rfl rfl rfl ?_
  refine pm_R_br pm_M172 (pc' := 3) rfl rfl ?_
  refine pm_R_lo pm_M172 (pc' := 4) rfl rfl rfl ?_
  refine pm_R_br pm_M172 (pc' := 7) (st' := []) rfl rfl ?_
  refine pm_R_lo pm_M172 (pc' := 8) rfl rfl rfl ?_
  refine pm_R_get pm_M172 (pc' := 11) (v := .ref 42) rfl rfl rfl (Nat.le_of_ble_eq_true rfl) (Nat.le_of_ble_eq_true rfl) rfl rfl ?_
  refine pm_R_lo pm_M172 (pc' := 12) rfl rfl rfl ?_
  refine pm_R_get pm_M172 (pc' := 15) (v := .ref 43) rfl rfl rfl (Nat.le_of_ble_eq_true rfl) (Nat.le_of_ble_eq_true rfl) rfl rfl ?_
  refine pm_R_op pm_M172 (pc' := 16) (st' := [.int 0, .ref 43, .ref 42]) rfl rfl rfl ?_
  refine pm_R_iald pm_M172 (pc' := 17) (v := 6) rfl rfl (Nat.le_of_ble_eq_true rfl) rfl rfl rfl ?_
  refine pm_R_lo pm_M172 (pc' := 18) rfl rfl rfl ?_
  refine pm_R_lo pm_M172 (pc' := 19) rfl rfl rfl ?_
  refine pm_R_op pm_M172 (pc' := 20) (st' := [.int (x2 >>> (8 &&& 31)), .int 6, .ref 42]) rfl rfl rfl ?_
  refine pm_R_op pm_M172 (pc' := 21) (st' := [.int ((Int32.toInt8 ((x2 >>> (8 &&& 31)))).toInt32), .int 6, .ref 42]) rfl rfl rfl ?_
  refine pm_R_bast pm_M172 (pc' := 22) rfl rfl (Nat.le_of_ble_eq_true rfl) (Nat.le_of_ble_eq_true rfl) rfl rfl ?_
  refine pm_R_lo pm_M172 (pc' := 23) rfl rfl rfl ?_
  refine pm_R_get pm_M172 (pc' := 26) (v := .ref 43) rfl rfl rfl (Nat.le_of_ble_eq_true rfl) (Nat.le_of_ble_eq_true rfl) rfl rfl ?_
  refine pm_R_op pm_M172 (pc' := 27) (st' := [.int 0, .ref 43]) rfl rfl rfl ?_
  refine pm_R_op pm_M172 (pc' := 28) (st' := [.int 0, .ref 43, .int 0, .ref 43]) rfl rfl rfl ?_
  refine pm_R_iald pm_M172 (pc' := 29) (v := 6) rfl rfl (Nat.le_of_ble_eq_true rfl) rfl rfl rfl ?_
  refine pm_R_op pm_M172 (pc' := 30) (st' := [.int 1, .int 6, .int 0, .ref 43]) rfl rfl rfl ?_
  refine pm_R_op pm_M172 (pc' := 31) (st' := [.int 7, .int 0, .ref 43]) rfl rfl rfl ?_
  refine pm_R_iast pm_M172 (pc' := 32) rfl rfl (Nat.le_of_ble_eq_true rfl) (Nat.le_of_ble_eq_true rfl) rfl rfl ?_
  refine pm_R_lo pm_M172 (pc' := 35) (ls' := [.ref 41, .int x2, .int 0]) (st' := []) rfl rfl rfl ?_
  refine pm_R_br pm_M172 (pc' := 3) rfl rfl ?_
  refine pm_R_lo pm_M172 (pc' := 4) rfl rfl rfl ?_
  refine pm_R_br pm_M172 (pc' := 7) (st' := []) rfl rfl ?_
  refine pm_R_lo pm_M172 (pc' := 8) rfl rfl rfl ?_
  refine pm_R_get pm_M172 (pc' := 11) (v := .ref 42) rfl rfl rfl (Nat.le_of_ble_eq_true rfl) (Nat.le_of_ble_eq_true rfl) rfl rfl ?_
  refine pm_R_lo pm_M172 (pc' := 12) rfl rfl rfl ?_
  refine pm_R_get pm_M172 (pc' := 15) (v := .ref 43) rfl rfl rfl (Nat.le_of_ble_eq_true rfl) (Nat.le_of_ble_eq_true rfl) rfl rfl ?_
  refine pm_R_op pm_M172 (pc' := 16) (st' := [.int 0, .ref 43, .ref 42]) rfl rfl rfl ?_
  refine pm_R_iald pm_M172 (pc' := 17) (v := 7) rfl rfl (Nat.le_of_ble_eq_true rfl) rfl rfl rfl ?_
  refine pm_R_lo pm_M172 (pc' := 18) rfl rfl rfl ?_
  refine pm_R_lo pm_M172 (pc' := 19) rfl rfl rfl ?_
  refine pm_R_op pm_M172 (pc' := 20) (st' := [.int (x2 >>> (0 &&& 31)), .int 7, .ref 42]) rfl rfl rfl ?_
  refine pm_R_op pm_M172 (pc' := 21) (st' := [.int ((Int32.toInt8 ((x2 >>> (0 &&& 31)))).toInt32), .int 7, .ref 42]) rfl rfl rfl ?_
  refine pm_R_bast pm_M172 (pc' := 22) rfl rfl (Nat.le_of_ble_eq_true rfl) (Nat.le_of_ble_eq_true rfl) rfl rfl ?_
  refine pm_R_lo pm_M172 (pc' := 23) rfl rfl rfl ?_
  refine pm_R_get pm_M172 (pc' := 26) (v := .ref 43) rfl rfl rfl (Nat.le_of_ble_eq_true rfl) (Nat.le_of_ble_eq_true rfl) rfl rfl ?_
  refine pm_R_op pm_M172 (pc' := 27) (st' := [.int 0, .ref 43]) rfl rfl rfl ?_
  refine pm_R_op pm_M172 (pc' := 28) (st' := [.int 0, .ref 43, .int 0, .ref 43]) rfl rfl rfl ?_
  refine pm_R_iald pm_M172 (pc' := 29) (v := 7) rfl rfl (Nat.le_of_ble_eq_true rfl) rfl rfl rfl ?_
  refine pm_R_op pm_M172 (pc' := 30) (st' := [.int 1, .int 7, .int 0, .ref 43]) rfl rfl rfl ?_
  refine pm_R_op pm_M172 (pc' := 31) (st' := [.int 8, .int 0, .ref 43]) rfl rfl rfl ?_
  refine pm_R_iast pm_M172 (pc' := 32) rfl rfl (Nat.le_of_ble_eq_true rfl) (Nat.le_of_ble_eq_true rfl) rfl rfl ?_
  refine pm_R_lo pm_M172 (pc' := 35) (ls' := [.ref 41, .int x2, .int (-8)]) (st' := []) rfl rfl rfl ?_
  refine pm_R_br pm_M172 (pc' := 3) rfl rfl ?_
  refine pm_R_lo pm_M172 (pc' := 4) rfl rfl rfl ?_
  refine pm_R_br pm_M172 (pc' := 38) (st' := []) rfl rfl ?_
  refine pm_R_ret pm_M172 (r := none) rfl rfl ?_
  show pm_R _ 171 32 [.ref 41, .int x1, .int x2, .int x3, .int x4, .int x5] [] _ _
  refine pm_R_lo pm_M171 (pc' := 33) rfl rfl rfl ?_
  refine pm_R_lo pm_M171 (pc' := 34) rfl rfl rfl ?_
  refine pm_R_cv pm_M171 (pc' := 37) (a := 41) (ra := [.int x3]) (rest := []) (ls' := [.ref 41, .int x3, pm_no]) rfl rfl (Or.inl rfl) pm_M172 rfl rfl (Nat.le_of_ble_eq_true rfl) (Nat.le_of_ble_eq_true rfl) rfl rfl (Nat.le_of_ble_eq_true rfl) rfl rfl ?_
  refine pm_R_op pm_M172 (pc' := 2) (st' := [.int 24]) rfl rfl rfl ?_
  refine pm_R_lo pm_M172 (pc' := 3) (ls' := [.ref 41, .int x3, .int 24]) (st' := []) rfl rfl rfl ?_
  refine pm_R_lo pm_M172 (pc' := 4) rfl rfl rfl ?_
  refine pm_R_br pm_M172 (pc' := 7) (st' := []) rfl rfl ?_
  refine pm_R_lo pm_M172 (pc' := 8) rfl rfl rfl ?_
  refine pm_R_get pm_M172 (pc' := 11) (v := .ref 42) rfl rfl rfl (Nat.le_of_ble_eq_true rfl) (Nat.le_of_ble_eq_true rfl) rfl rfl ?_
  refine pm_R_lo pm_M172 (pc' := 12) rfl rfl rfl ?_
  refine pm_R_get pm_M172 (pc' := 15) (v := .ref 43) rfl rfl rfl (Nat.le_of_ble_eq_true rfl) (Nat.le_of_ble_eq_true rfl) rfl rfl ?_
  refine pm_R_op pm_M172 (pc' := 16) (st' := [.int 0, .ref 43, .ref 42]) rfl rfl rfl ?_
  refine pm_R_iald pm_M172 (pc' := 17) (v := 8) rfl rfl (Nat.le_of_ble_eq_true rfl) rfl rfl rfl ?_
  refine pm_R_lo pm_M172 (pc' := 18) rfl rfl rfl ?_
  refine pm_R_lo pm_M172 (pc' := 19) rfl rfl rfl ?_
  refine pm_R_op pm_M172 (pc' := 20) (st' := [.int (x3 >>> (24 &&& 31)), .int 8, .ref 42]) rfl rfl rfl ?_
  refine pm_R_op pm_M172 (pc' := 21) (st' := [.int ((Int32.toInt8 ((x3 >>> (24 &&& 31)))).toInt32), .int 8, .ref 42]) rfl rfl rfl ?_
  refine pm_R_bast pm_M172 (pc' := 22) rfl rfl (Nat.le_of_ble_eq_true rfl) (Nat.le_of_ble_eq_true rfl) rfl rfl ?_
  refine pm_R_lo pm_M172 (pc' := 23) rfl rfl rfl ?_
  refine pm_R_get pm_M172 (pc' := 26) (v := .ref 43) rfl rfl rfl (Nat.le_of_ble_eq_true rfl) (Nat.le_of_ble_eq_true rfl) rfl rfl ?_
  refine pm_R_op pm_M172 (pc' := 27) (st' := [.int 0, .ref 43]) rfl rfl rfl ?_
  refine pm_R_op pm_M172 (pc' := 28) (st' := [.int 0, .ref 43, .int 0, .ref 43]) rfl rfl rfl ?_
  refine pm_R_iald pm_M172 (pc' := 29) (v := 8) rfl rfl (Nat.le_of_ble_eq_true rfl) rfl rfl rfl ?_
  refine pm_R_op pm_M172 (pc' := 30) (st' := [.int 1, .int 8, .int 0, .ref 43]) rfl rfl rfl ?_
  refine pm_R_op pm_M172 (pc' := 31) (st' := [.int 9, .int 0, .ref 43]) rfl rfl rfl ?_
  refine pm_R_iast pm_M172 (pc' := 32) rfl rfl (Nat.le_of_ble_eq_true rfl) (Nat.le_of_ble_eq_true rfl) rfl rfl ?_
  refine pm_R_lo pm_M172 (pc' := 35) (ls' := [.ref 41, .int x3, .int 16]) (st' := []) rfl rfl rfl ?_
  refine pm_R_br pm_M172 (pc' := 3) rfl rfl ?_
  refine pm_R_lo pm_M172 (pc' := 4) rfl rfl rfl ?_
  refine pm_R_br pm_M172 (pc' := 7) (st' := []) rfl rfl ?_
  refine pm_R_lo pm_M172 (pc' := 8) rfl rfl rfl ?_
  refine pm_R_get pm_M172 (pc' := 11) (v := .ref 42) rfl rfl rfl (Nat.le_of_ble_eq_true rfl) (Nat.le_of_ble_eq_true rfl) rfl rfl ?_
  refine pm_R_lo pm_M172 (pc' := 12) rfl rfl rfl ?_
  refine pm_R_get pm_M172 (pc' := 15) (v := .ref 43) rfl rfl rfl (Nat.le_of_ble_eq_true rfl) (Nat.le_of_ble_eq_true rfl) rfl rfl ?_
  refine pm_R_op pm_M172 (pc' := 16) (st' := [.int 0, .ref 43, .ref 42]) rfl rfl rfl ?_
  refine pm_R_iald pm_M172 (pc' := 17) (v := 9) rfl rfl (Nat.le_of_ble_eq_true rfl) rfl rfl rfl ?_
  refine pm_R_lo pm_M172 (pc' := 18) rfl rfl rfl ?_
  refine pm_R_lo pm_M172 (pc' := 19) rfl rfl rfl ?_
  refine pm_R_op pm_M172 (pc' := 20) (st' := [.int (x3 >>> (16 &&& 31)), .int 9, .ref 42]) rfl rfl rfl ?_
  refine pm_R_op pm_M172 (pc' := 21) (st' := [.int ((Int32.toInt8 ((x3 >>> (16 &&& 31)))).toInt32), .int 9, .ref 42]) rfl rfl rfl ?_
  refine pm_R_bast pm_M172 (pc' := 22) rfl rfl (Nat.le_of_ble_eq_true rfl) (Nat.le_of_ble_eq_true rfl) rfl rfl ?_
  refine pm_R_lo pm_M172 (pc' := 23) rfl rfl rfl ?_
  refine pm_R_get pm_M172 (pc' := 26) (v := .ref 43) rfl rfl rfl (Nat.le_of_ble_eq_true rfl) (Nat.le_of_ble_eq_true rfl) rfl rfl ?_
  refine pm_R_op pm_M172 (pc' := 27) (st' := [.int 0, .ref 43]) rfl rfl rfl ?_
  refine pm_R_op pm_M172 (pc' := 28) (st' := [.int 0, .ref 43, .int 0, .ref 43]) rfl rfl rfl ?_
  refine pm_R_iald pm_M172 (pc' := 29) (v := 9) rfl rfl (Nat.le_of_ble_eq_true rfl) rfl rfl rfl ?_
  refine pm_R_op pm_M172 (pc' := 30) (st' := [.int 1, .int 9, .int 0, .ref 43]) rfl rfl rfl ?_
  refine pm_R_op pm_M172 (pc' := 31) (st' := [.int 10, .int 0, .ref 43]) rfl rfl rfl ?_
  refine pm_R_iast pm_M172 (pc' := 32) rfl rfl (Nat.le_of_ble_eq_true rfl) (Nat.le_of_ble_eq_true rfl) rfl rfl ?_
  refine pm_R_lo pm_M172 (pc' := 35) (ls' := [.ref 41, .int x3, .int 8]) (st' := []) rfl rfl rfl ?_
  refine pm_R_br pm_M172 (pc' := 3) rfl rfl ?_
  refine pm_R_lo pm_M172 (pc' := 4) rfl rfl rfl ?_
  refine pm_R_br pm_M172 (pc' := 7) (st' := []) rfl rfl ?_
  refine pm_R_lo pm_M172 (pc' := 8) rfl rfl rfl ?_
  refine pm_R_get pm_M172 (pc' := 11) (v := .ref 42) rfl rfl rfl (Nat.le_of_ble_eq_true rfl) (Nat.le_of_ble_eq_true rfl) rfl rfl ?_
  refine pm_R_lo pm_M172 (pc' := 12) rfl rfl rfl ?_
  refine pm_R_get pm_M172 (pc' := 15) (v := .ref 43) rfl rfl rfl (Nat.le_of_ble_eq_true rfl) (Nat.le_of_ble_eq_true rfl) rfl rfl ?_
  refine pm_R_op pm_M172 (pc' := 16) (st' := [.int 0, .ref 43, .ref 42]) rfl rfl rfl ?_
  refine pm_R_iald pm_M172 (pc' := 17) (v := 10) rfl rfl (Nat.le_of_ble_eq_true rfl) rfl rfl rfl ?_
  refine pm_R_lo pm_M172 (pc' := 18) rfl rfl rfl ?_
  refine pm_R_lo pm_M172 (pc' := 19) rfl rfl rfl ?_
  refine pm_R_op pm_M172 (pc' := 20) (st' := [.int (x3 >>> (8 &&& 31)), .int 10, .ref 42]) rfl rfl rfl ?_
  refine pm_R_op pm_M172 (pc' := 21) (st' := [.int ((Int32.toInt8 ((x3 >>> (8 &&& 31)))).toInt32), .int 10, .ref 42]) rfl rfl rfl ?_
  refine pm_R_bast pm_M172 (pc' := 22) rfl rfl (Nat.le_of_ble_eq_true rfl) (Nat.le_of_ble_eq_true rfl) rfl rfl ?_
  refine pm_R_lo pm_M172 (pc' := 23) rfl rfl rfl ?_
  refine pm_R_get pm_M172 (pc' := 26) (v := .ref 43) rfl rfl rfl (Nat.le_of_ble_eq_true rfl) (Nat.le_of_ble_eq_true rfl) rfl rfl ?_
  refine pm_R_op pm_M172 (pc' := 27) (st' := [.int 0, .ref 43]) rfl rfl rfl ?_
  refine pm_R_op pm_M172 (pc' := 28) (st' := [.int 0, .ref 43, .int 0, .ref 43]) rfl rfl rfl ?_
  refine pm_R_iald pm_M172 (pc' := 29) (v := 10) rfl rfl (Nat.le_of_ble_eq_true rfl) rfl rfl rfl ?_
  refine pm_R_op pm_M172 (pc' := 30) (st' := [.int 1, .int 10, .int 0, .ref 43]) rfl rfl rfl ?_
  refine pm_R_op pm_M172 (pc' := 31) (st' := [.int 11, .int 0, .ref 43]) rfl rfl rfl ?_
  refine pm_R_iast pm_M172 (pc' := 32) rfl rfl (Nat.le_of_ble_eq_true rfl) (Nat.le_of_ble_eq_true rfl) rfl rfl ?_
  refine pm_R_lo pm_M172 (pc' := 35) (ls' := [.ref 41, .int x3, .int 0]) (st' := []) rfl rfl rfl ?_
  refine pm_R_br pm_M172 (pc' := 3) rfl rfl ?_
  refine pm_R_lo pm_M172 (pc' := 4) rfl rfl rfl ?_
  refine pm_R_br pm_M172 (pc' := 7) (st' := []) rfl rfl ?_
  refine pm_R_lo pm_M172 (pc' := 8) rfl rfl rfl ?_
  refine pm_R_get pm_M172 (pc' := 11) (v := .ref 42) rfl rfl rfl (Nat.le_of_ble_eq_true rfl) (Nat.le_of_ble_eq_true rfl) rfl rfl ?_
  refine pm_R_lo pm_M172 (pc' := 12) rfl rfl rfl ?_
  refine pm_R_get pm_M172 (pc' := 15) (v := .ref 43) rfl rfl rfl (Nat.le_of_ble_eq_true rfl) (Nat.le_of_ble_eq_true rfl) rfl rfl ?_
  refine pm_R_op pm_M172 (pc' := 16) (st' := [.int 0, .ref 43, .ref 42]) rfl rfl rfl ?_
  refine pm_R_iald pm_M172 (pc' := 17) (v := 11) rfl rfl (Nat.le_of_ble_eq_true rfl) rfl rfl rfl ?_
  refine pm_R_lo pm_M172 (pc' := 18) rfl rfl rfl ?_
  refine pm_R_lo pm_M172 (pc' := 19) rfl rfl rfl ?_
  refine pm_R_op pm_M172 (pc' := 20) (st' := [.int (x3 >>> (0 &&& 31)), .int 11, .ref 42]) rfl rfl rfl ?_
  refine pm_R_op pm_M172 (pc' := 21) (st' := [.int ((Int32.toInt8 ((x3 >>> (0 &&& 31)))).toInt32), .int 11, .ref 42]) rfl rfl rfl ?_
  refine pm_R_bast pm_M172 (pc' := 22) rfl rfl (Nat.le_of_ble_eq_true rfl) (Nat.le_of_ble_eq_true rfl) rfl rfl ?_
  refine pm_R_lo pm_M172 (pc' := 23) rfl rfl rfl ?_
  refine pm_R_get pm_M172 (pc' := 26) (v := .ref 43) rfl rfl rfl (Nat.le_of_ble_eq_true rfl) (Nat.le_of_ble_eq_true rfl) rfl rfl ?_
  refine pm_R_op pm_M172 (pc' := 27) (st' := [.int 0, .ref 43]) rfl rfl rfl ?_
  refine pm_R_op pm_M172 (pc' := 28) (st' := [.int 0, .ref 43, .int 0, .ref 43]) rfl rfl rfl ?_
  refine pm_R_iald pm_M172 (pc' := 29) (v := 11) rfl rfl (Nat.le_of_ble_eq_true rfl) rfl rfl rfl ?_
  refine pm_R_op pm_M172 (pc' := 30) (st' := [.int 1, .int 11, .int 0, .ref 43]) rfl rfl rfl ?_
  refine pm_R_op pm_M172 (pc' := 31) (st' := [.int 12, .int 0, .ref 43]) rfl rfl rfl ?_
  refine pm_R_iast pm_M172 (pc' := 32) rfl rfl (Nat.le_of_ble_eq_true rfl) (Nat.le_of_ble_eq_true rfl) rfl rfl ?_
  refine pm_R_lo pm_M172 (pc' := 35) (ls' := [.ref 41, .int x3, .int (-8)]) (st' := []) rfl rfl rfl ?_
  refine pm_R_br pm_M172 (pc' := 3) rfl rfl ?_
  refine pm_R_lo pm_M172 (pc' := 4) rfl rfl rfl ?_
  refine pm_R_br pm_M172 (pc' := 38) (st' := []) rfl rfl ?_
  refine pm_R_ret pm_M172 (r := none) rfl rfl ?_
  show pm_R _ 171 37 [.ref 41, .int x1, .int x2, .int x3, .int x4, .int x5] [] _ _
  refine pm_R_lo pm_M171 (pc' := 38) rfl rfl rfl ?_
  refine pm_R_lo pm_M171 (pc' := 40) rfl rfl rfl ?_
  refine pm_R_cv pm_M171 (pc' := 43) (a := 41) (ra := [.int x4]) (rest := []) (ls' := [.ref 41, .int x4, pm_no]) rfl rfl (Or.inl rfl) pm_M172 rfl rfl (Nat.le_of_ble_eq_true rfl) (Nat.le_of_ble_eq_true rfl) rfl rfl (Nat.le_of_ble_eq_true rfl) rfl rfl ?_
  refine pm_R_op pm_M172 (pc' := 2) (st' := [.int 24]) rfl rfl rfl ?_
  refine pm_R_lo pm_M172 (pc' := 3) (ls' := [.ref 41, .int x4, .int 24]) (st' := []) rfl rfl rfl ?_
  refine pm_R_lo pm_M172 (pc' := 4) rfl rfl rfl ?_
  refine pm_R_br pm_M172 (pc' := 7) (st' := []) rfl rfl ?_
  refine pm_R_lo pm_M172 (pc' := 8) rfl rfl rfl ?_
  refine pm_R_get pm_M172 (pc' := 11) (v := .ref 42) rfl rfl rfl (Nat.le_of_ble_eq_true rfl) (Nat.le_of_ble_eq_true rfl) rfl rfl ?_
  refine pm_R_lo pm_M172 (pc' := 12) rfl rfl rfl ?_
  refine pm_R_get pm_M172 (pc' := 15) (v := .ref 43) rfl rfl rfl (Nat.le_of_ble_eq_true rfl) (Nat.le_of_ble_eq_true rfl) rfl rfl ?_
  refine pm_R_op pm_M172 (pc' := 16) (st' := [.int 0, .ref 43, .ref 42]) rfl rfl rfl ?_
  refine pm_R_iald pm_M172 (pc' := 17) (v := 12) rfl rfl (Nat.le_of_ble_eq_true rfl) rfl rfl rfl ?_
  refine pm_R_lo pm_M172 (pc' := 18) rfl rfl rfl ?_
  refine pm_R_lo pm_M172 (pc' := 19) rfl rfl rfl ?_
  refine pm_R_op pm_M172 (pc' := 20) (st' := [.int (x4 >>> (24 &&& 31)), .int 12, .ref 42]) rfl rfl rfl ?_
  refine pm_R_op pm_M172 (pc' := 21) (st' := [.int ((Int32.toInt8 ((x4 >>> (24 &&& 31)))).toInt32), .int 12, .ref 42]) rfl rfl rfl ?_
  refine pm_R_bast pm_M172 (pc' := 22) rfl rfl (Nat.le_of_ble_eq_true rfl) (Nat.le_of_ble_eq_true rfl) rfl rfl ?_
  refine pm_R_lo pm_M172 (pc' := 23) rfl rfl rfl ?_
  refine pm_R_get pm_M172 (pc' := 26) (v := .ref 43) rfl rfl rfl (Nat.le_of_ble_eq_true rfl) (Nat.le_of_ble_eq_true rfl) rfl rfl ?_
  refine pm_R_op pm_M172 (pc' := 27) (st' := [.int 0, .ref 43]) rfl rfl rfl ?_
  refine pm_R_op pm_M172 (pc' := 28) (st' := [.int 0, .ref 43, .int 0, .ref 43]) rfl rfl rfl ?_
  refine pm_R_iald pm_M172 (pc' := 29) (v := 12) rfl rfl (Nat.le_of_ble_eq_true rfl) rfl rfl rfl ?_
  refine pm_R_op pm_M172 (pc' := 30) (st' := [.int 1, .int 12, .int 0, .ref 43]) rfl rfl rfl ?_
  refine pm_R_op pm_M172 (pc' := 31) (st' := [.int 13, .int 0, .ref 43]) rfl rfl rfl ?_
  refine pm_R_iast pm_M172 (pc' := 32) rfl rfl (Nat.le_of_ble_eq_true rfl) (Nat.le_of_ble_eq_true rfl) rfl rfl ?_
  refine pm_R_lo pm_M172 (pc' := 35) (ls' := [.ref 41, .int x4, .int 16]) (st' := []) rfl rfl rfl ?_
  refine pm_R_br pm_M172 (pc' := 3) rfl rfl ?_
  refine pm_R_lo pm_M172 (pc' := 4) rfl rfl rfl ?_
  refine pm_R_br pm_M172 (pc' := 7) (st' := []) rfl rfl ?_
  refine pm_R_lo pm_M172 (pc' := 8) rfl rfl rfl ?_
  refine pm_R_get pm_M172 (pc' := 11) (v := .ref 42) rfl rfl rfl (Nat.le_of_ble_eq_true rfl) (Nat.le_of_ble_eq_true rfl) rfl rfl ?_
  refine pm_R_lo pm_M172 (pc' := 12) rfl rfl rfl ?_
  refine pm_R_get pm_M172 (pc' := 15) (v := .ref 43) rfl rfl rfl (Nat.le_of_ble_eq_true rfl) (Nat.le_of_ble_eq_true rfl) rfl rfl ?_
  refine pm_R_op pm_M172 (pc' := 16) (st' := [.int 0, .ref 43, .ref 42]) rfl rfl rfl ?_
  refine pm_R_iald pm_M172 (pc' := 17) (v := 13) rfl rfl (Nat.le_of_ble_eq_true rfl) rfl rfl rfl ?_
  refine pm_R_lo pm_M172 (pc' := 18) rfl rfl rfl ?_
  refine pm_R_lo pm_M172 (pc' := 19) rfl rfl rfl ?_
  refine pm_R_op pm_M172 (pc' := 20) (st' := [.int (x4 >>> (16 &&& 31)), .int 13, .ref 42]) rfl rfl rfl ?_
  refine pm_R_op pm_M172 (pc' := 21) (st' := [.int ((Int32.toInt8 ((x4 >>> (16 &&& 31)))).toInt32), .int 13, .ref 42]) rfl rfl rfl ?_
  refine pm_R_bast pm_M172 (pc' := 22) rfl rfl (Nat.le_of_ble_eq_true rfl) (Nat.le_of_ble_eq_true rfl) rfl rfl ?_
  refine pm_R_lo pm_M172 (pc' := 23) rfl rfl rfl ?_
  refine pm_R_get pm_M172 (pc' := 26) (v := .ref 43) rfl rfl rfl (Nat.le_of_ble_eq_true rfl) (Nat.le_of_ble_eq_true rfl) rfl rfl ?_
  refine pm_R_op pm_M172 (pc' := 27) (st' := [.int 0, .ref 43]) rfl rfl rfl ?_
  refine pm_R_op pm_M172 (pc' := 28) (st' := [.int 0, .ref 43, .int 0, .ref 43]) rfl rfl rfl ?_
  refine pm_R_iald pm_M172 (pc' := 29) (v := 13) rfl rfl (Nat.le_of_ble_eq_true rfl) rfl rfl rfl ?_
  refine pm_R_op pm_M172 (pc' := 30) (st' := [.int 1, .int 13, .int 0, .ref 43]) rfl rfl rfl ?_
  refine pm_R_op pm_M172 (pc' := 31) (st' := [.int 14, .int 0, .ref 43]) rfl rfl rfl ?_
  refine pm_R_iast pm_M172 (pc' := 32) rfl rfl (Nat.le_of_ble_eq_true rfl) (Nat.le_of_ble_eq_true rfl) rfl rfl ?_
  refine pm_R_lo pm_M172 (pc' := 35) (ls' := [.ref 41, .int x4, .int 8]) (st' := []) rfl rfl rfl ?_
  refine pm_R_br pm_M172 (pc' := 3) rfl rfl ?_
  refine pm_R_lo pm_M172 (pc' := 4) rfl rfl rfl ?_
  refine pm_R_br pm_M172 (pc' := 7) (st' := []) rfl rfl ?_
  refine pm_R_lo pm_M172 (pc' := 8) rfl rfl rfl ?_
  refine pm_R_get pm_M172 (pc' := 11) (v := .ref 42) rfl rfl rfl (Nat.le_of_ble_eq_true rfl) (Nat.le_of_ble_eq_true rfl) rfl rfl ?_
  refine pm_R_lo pm_M172 (pc' := 12) rfl rfl rfl ?_
  refine pm_R_get pm_M172 (pc' := 15) (v := .ref 43) rfl rfl rfl (Nat.le_of_ble_eq_true rfl) (Nat.le_of_ble_eq_true rfl) rfl rfl ?_
  refine pm_R_op pm_M172 (pc' := 16) (st' := [.int 0, .ref 43, .ref 42]) rfl rfl rfl ?_
  refine pm_R_iald pm_M172 (pc' := 17) (v := 14) rfl rfl (Nat.le_of_ble_eq_true rfl) rfl rfl rfl ?_
  refine pm_R_lo pm_M172 (pc' := 18) rfl rfl rfl ?_
  refine pm_R_lo pm_M172 (pc' := 19) rfl rfl rfl ?_
  refine pm_R_op pm_M172 (pc' := 20) (st' := [.int (x4 >>> (8 &&& 31)), .int 14, .ref 42]) rfl rfl rfl ?_
  refine pm_R_op pm_M172 (pc' := 21) (st' := [.int ((Int32.toInt8 ((x4 >>> (8 &&& 31)))).toInt32), .int 14, .ref 42]) rfl rfl rfl ?_
  refine pm_R_bast pm_M172 (pc' := 22) rfl rfl (Nat.le_of_ble_eq_true rfl) (Nat.le_of_ble_eq_true rfl) rfl rfl ?_
  refine pm_R_lo pm_M172 (pc' := 23) rfl rfl rfl ?_
  refine pm_R_get pm_M172 (pc' := 26) (v := .ref 43) rfl rfl rfl (Nat.le_of_ble_eq_true rfl) (Nat.le_of_ble_eq_true rfl) rfl rfl ?_
  refine pm_R_op pm_M172 (pc' := 27) (st' := [.int 0, .ref 43]) rfl rfl rfl ?_
  refine pm_R_op pm_M172 (pc' := 28) (st' := [.int 0, .ref 43, .int 0, .ref 43]) rfl rfl rfl ?_
  refine pm_R_iald pm_M172 (pc' := 29) (v := 14) rfl rfl (Nat.le_of_ble_eq_true rfl) rfl rfl rfl ?_
  refine pm_R_op pm_M172 (pc' := 30) (st' := [.int 1, .int 14, .int 0, .ref 43]) rfl rfl rfl ?_
  refine pm_R_op pm_M172 (pc' := 31) (st' := [.int 15, .int 0, .ref 43]) rfl rfl rfl ?_
  refine pm_R_iast pm_M172 (pc' := 32) rfl rfl (Nat.le_of_ble_eq_true rfl) (Nat.le_of_ble_eq_true rfl) rfl rfl ?_
  refine pm_R_lo pm_M172 (pc' := 35) (ls' := [.ref 41, .int x4, .int 0]) (st' := []) rfl rfl rfl ?_
  refine pm_R_br pm_M172 (pc' := 3) rfl rfl ?_
  refine pm_R_lo pm_M172 (pc' := 4) rfl rfl rfl ?_
  refine pm_R_br pm_M172 (pc' := 7) (st' := []) rfl rfl ?_
  refine pm_R_lo pm_M172 (pc' := 8) rfl rfl rfl ?_
  refine pm_R_get pm_M172 (pc' := 11) (v := .ref 42) rfl rfl rfl (Nat.le_of_ble_eq_true rfl) (Nat.le_of_ble_eq_true rfl) rfl rfl ?_
  refine pm_R_lo pm_M172 (pc' := 12) rfl rfl rfl ?_
  refine pm_R_get pm_M172 (pc' := 15) (v := .ref 43) rfl rfl rfl (Nat.le_of_ble_eq_true rfl) (Nat.le_of_ble_eq_true rfl) rfl rfl ?_
  refine pm_R_op pm_M172 (pc' := 16) (st' := [.int 0, .ref 43, .ref 42]) rfl rfl rfl ?_
  refine pm_R_iald pm_M172 (pc' := 17) (v := 15) rfl rfl (Nat.le_of_ble_eq_true rfl) rfl rfl rfl ?_
  refine pm_R_lo pm_M172 (pc' := 18) rfl rfl rfl ?_
  refine pm_R_lo pm_M172 (pc' := 19) rfl rfl rfl ?_
  refine pm_R_op pm_M172 (pc' := 20) (st' := [.int (x4 >>> (0 &&& 31)), .int 15, .ref 42]) rfl rfl rfl ?_
  refine pm_R_op pm_M172 (pc' := 21) (st' := [.int ((Int32.toInt8 ((x4 >>> (0 &&& 31)))).toInt32), .int 15, .ref 42]) rfl rfl rfl ?_
  refine pm_R_bast pm_M172 (pc' := 22) rfl rfl (Nat.le_of_ble_eq_true rfl) (Nat.le_of_ble_eq_true rfl) rfl rfl ?_
  refine pm_R_lo pm_M172 (pc' := 23) rfl rfl rfl ?_
  refine pm_R_get pm_M172 (pc' := 26) (v := .ref 43) rfl rfl rfl (Nat.le_of_ble_eq_true rfl) (Nat.le_of_ble_eq_true rfl) rfl rfl ?_
  refine pm_R_op pm_M172 (pc' := 27) (st' := [.int 0, .ref 43]) rfl rfl rfl ?_
  refine pm_R_op pm_M172 (pc' := 28) (st' := [.int 0, .ref 43, .int 0, .ref 43]) rfl rfl rfl ?_
  refine pm_R_iald pm_M172 (pc' := 29) (v := 15) rfl rfl (Nat.le_of_ble_eq_true rfl) rfl rfl rfl ?_
  refine pm_R_op pm_M172 (pc' := 30) (st' := [.int 1, .int 15, .int 0, .ref 43]) rfl rfl rfl ?_
  refine pm_R_op pm_M172 (pc' := 31) (st' := [.int 16, .int 0, .ref 43]) rfl rfl rfl ?_
  refine pm_R_iast pm_M172 (pc' := 32) rfl rfl (Nat.le_of_ble_eq_true rfl) (Nat.le_of_ble_eq_true rfl) rfl rfl ?_
  refine pm_R_lo pm_M172 (pc' := 35) (ls' := [.ref 41, .int x4, .int (-8)]) (st' := []) rfl rfl rfl ?_
  refine pm_R_br pm_M172 (pc' := 3) rfl rfl ?_
  refine pm_R_lo pm_M172 (pc' := 4) rfl rfl rfl ?_
  refine pm_R_br pm_M172 (pc' := 38) (st' := []) rfl rfl ?_
  refine pm_R_ret pm_M172 (r := none) rfl rfl ?_
  show pm_R _ 171 43 [.ref 41, .int x1, .int x2, .int x3, .int x4, .int x5] [] _ _
  refine pm_R_lo pm_M171 (pc' := 44) rfl rfl rfl ?_
  refine pm_R_lo pm_M171 (pc' := 46) rfl rfl rfl ?_
  refine pm_R_cv pm_M171 (pc' := 49) (a := 41) (ra := [.int x5]) (rest := []) (ls' := [.ref 41, .int x5, pm_no]) rfl rfl (Or.inl rfl) pm_M172 rfl rfl (Nat.le_of_ble_eq_true rfl) (Nat.le_of_ble_eq_true rfl) rfl rfl (Nat.le_of_ble_eq_true rfl) rfl rfl ?_
  refine pm_R_op pm_M172 (pc' := 2) (st' := [.int 24]) rfl rfl rfl ?_
  refine pm_R_lo pm_M172 (pc' := 3) (ls' := [.ref 41, .int x5, .int 24]) (st' := []) rfl rfl rfl ?_
  refine pm_R_lo pm_M172 (pc' := 4) rfl rfl rfl ?_
  refine pm_R_br pm_M172 (pc' := 7) (st' := []) rfl rfl ?_
  refine pm_R_lo pm_M172 (pc' := 8) rfl rfl rfl ?_
  refine pm_R_get pm_M172 (pc' := 11) (v := .ref 42) rfl rfl rfl (Nat.le_of_ble_eq_true rfl) (Nat.le_of_ble_eq_true rfl) rfl rfl ?_
  refine pm_R_lo pm_M172 (pc' := 12) rfl rfl rfl ?_
  refine pm_R_get pm_M172 (pc' := 15) (v := .ref 43) rfl rfl rfl (Nat.le_of_ble_eq_true rfl) (Nat.le_of_ble_eq_true rfl) rfl rfl ?_
  refine pm_R_op pm_M172 (pc' := 16) (st' := [.int 0, .ref 43, .ref 42]) rfl rfl rfl ?_
  refine pm_R_iald pm_M172 (pc' := 17) (v := 16) rfl rfl (Nat.le_of_ble_eq_true rfl) rfl rfl rfl ?_
  refine pm_R_lo pm_M172 (pc' := 18) rfl rfl rfl ?_
  refine pm_R_lo pm_M172 (pc' := 19) rfl rfl rfl ?_
  refine pm_R_op pm_M172 (pc' := 20) (st' := [.int (x5 >>> (24 &&& 31)), .int 16, .ref 42]) rfl rfl rfl ?_
  refine pm_R_op pm_M172 (pc' := 21) (st' := [.int ((Int32.toInt8 ((x5 >>> (24 &&& 31)))).toInt32), .int 16, .ref 42]) rfl rfl rfl ?_
  refine pm_R_bast pm_M172 (pc' := 22) rfl rfl (Nat.le_of_ble_eq_true rfl) (Nat.le_of_ble_eq_true rfl) rfl rfl ?_
  refine pm_R_lo pm_M172 (pc' := 23) rfl rfl rfl ?_
  refine pm_R_get pm_M172 (pc' := 26) (v := .ref 43) rfl rfl rfl (Nat.le_of_ble_eq_true rfl) (Nat.le_of_ble_eq_true rfl) rfl rfl ?_
  refine pm_R_op pm_M172 (pc' := 27) (st' := [.int 0, .ref 43]) rfl rfl rfl ?_
  refine pm_R_op pm_M172 (pc' := 28) (st' := [.int 0, .ref 43, .int 0, .ref 43]) rfl rfl rfl ?_
  refine pm_R_iald pm_M172 (pc' := 29) (v := 16) rfl rfl (Nat.le_of_ble_eq_true rfl) rfl rfl rfl ?_
  refine pm_R_op pm_M172 (pc' := 30) (st' := [.int 1, .int 16, .int 0, .ref 43]) rfl rfl rfl ?_
  refine pm_R_op pm_M172 (pc' := 31) (st' := [.int 17, .int 0, .ref 43]) rfl rfl rfl ?_
  refine pm_R_iast pm_M172 (pc' := 32) rfl rfl (Nat.le_of_ble_eq_true rfl) (Nat.le_of_ble_eq_true rfl) rfl rfl ?_
  refine pm_R_lo pm_M172 (pc' := 35) (ls' := [.ref 41, .int x5, .int 16]) (st' := []) rfl rfl rfl ?_
  refine pm_R_br pm_M172 (pc' := 3) rfl rfl ?_
  refine pm_R_lo pm_M172 (pc' := 4) rfl rfl rfl ?_
  refine pm_R_br pm_M172 (pc' := 7) (st' := []) rfl rfl ?_
  refine pm_R_lo pm_M172 (pc' := 8) rfl rfl rfl ?_
  refine pm_R_get pm_M172 (pc' := 11) (v := .ref 42) rfl rfl rfl (Nat.le_of_ble_eq_true rfl) (Nat.le_of_ble_eq_true rfl) rfl rfl ?_
  refine pm_R_lo pm_M172 (pc' := 12) rfl rfl rfl ?_
  refine pm_R_get pm_M172 (pc' := 15) (v := .ref 43) rfl rfl rfl (Nat.le_of_ble_eq_true rfl) (Nat.le_of_ble_eq_true rfl) rfl rfl ?_
  refine pm_R_op pm_M172 (pc' := 16) (st' := [.int 0, .ref 43, .ref 42]) rfl rfl rfl ?_
  refine pm_R_iald pm_M172 (pc' := 17) (v := 17) rfl rfl (Nat.le_of_ble_eq_true rfl) rfl rfl rfl ?_
  refine pm_R_lo pm_M172 (pc' := 18) rfl rfl rfl ?_
  refine pm_R_lo pm_M172 (pc' := 19) rfl rfl rfl ?_
  refine pm_R_op pm_M172 (pc' := 20) (st' := [.int (x5 >>> (16 &&& 31)), .int 17, .ref 42]) rfl rfl rfl ?_
  refine pm_R_op pm_M172 (pc' := 21) (st' := [.int ((Int32.toInt8 ((x5 >>> (16 &&& 31)))).toInt32), .int 17, .ref 42]) rfl rfl rfl ?_
  refine pm_R_bast pm_M172 (pc' := 22) rfl rfl (Nat.le_of_ble_eq_true rfl) (Nat.le_of_ble_eq_true rfl) rfl rfl ?_
  refine pm_R_lo pm_M172 (pc' := 23) rfl rfl rfl ?_
  refine pm_R_get pm_M172 (pc' := 26) (v := .ref 43) rfl rfl rfl (Nat.le_of_ble_eq_true rfl) (Nat.le_of_ble_eq_true rfl) rfl rfl ?_
  refine pm_R_op pm_M172 (pc' := 27) (st' := [.int 0, .ref 43]) rfl rfl rfl ?_
  refine pm_R_op pm_M172 (pc' := 28) (st' := [.int 0, .ref 43, .int 0, .ref 43]) rfl rfl rfl ?_
  refine pm_R_iald pm_M172 (pc' := 29) (v := 17) rfl rfl (Nat.le_of_ble_eq_true rfl) rfl rfl rfl ?_
  refine pm_R_op pm_M172 (pc' := 30) (st' := [.int 1, .int 17, .int 0, .ref 43]) rfl rfl rfl ?_
  refine pm_R_op pm_M172 (pc' := 31) (st' := [.int 18, .int 0, .ref 43]) rfl rfl rfl ?_
  refine pm_R_iast pm_M172 (pc' := 32) rfl rfl (Nat.le_of_ble_eq_true rfl) (Nat.le_of_ble_eq_true rfl) rfl rfl ?_
  refine pm_R_lo pm_M172 (pc' := 35) (ls' := [.ref 41, .int x5, .int 8]) (st' := []) rfl rfl rfl ?_
  refine pm_R_br pm_M172 (pc' := 3) rfl rfl ?_
  refine pm_R_lo pm_M172 (pc' := 4) rfl rfl rfl ?_
  refine pm_R_br pm_M172 (pc' := 7) (st' := []) rfl rfl ?_
  refine pm_R_lo pm_M172 (pc' := 8) rfl rfl rfl ?_
  refine pm_R_get pm_M172 (pc' := 11) (v := .ref 42) rfl rfl rfl (Nat.le_of_ble_eq_true rfl) (Nat.le_of_ble_eq_true rfl) rfl rfl ?_
  refine pm_R_lo pm_M172 (pc' := 12) rfl rfl rfl ?_
  refine pm_R_get pm_M172 (pc' := 15) (v := .ref 43) rfl rfl rfl (Nat.le_of_ble_eq_true rfl) (Nat.le_of_ble_eq_true rfl) rfl rfl ?_
  refine pm_R_op pm_M172 (pc' := 16) (st' := [.int 0, .ref 43, .ref 42]) rfl rfl rfl ?_
  refine pm_R_iald pm_M172 (pc' := 17) (v := 18) rfl rfl (Nat.le_of_ble_eq_true rfl) rfl rfl rfl ?_
  refine pm_R_lo pm_M172 (pc' := 18) rfl rfl rfl ?_
  refine pm_R_lo pm_M172 (pc' := 19) rfl rfl rfl ?_
  refine pm_R_op pm_M172 (pc' := 20) (st' := [.int (x5 >>> (8 &&& 31)), .int 18, .ref 42]) rfl rfl rfl ?_
  refine pm_R_op pm_M172 (pc' := 21) (st' := [.int ((Int32.toInt8 ((x5 >>> (8 &&& 31)))).toInt32), .int 18, .ref 42]) rfl rfl rfl ?_
  refine pm_R_bast pm_M172 (pc' := 22) rfl rfl (Nat.le_of_ble_eq_true rfl) (Nat.le_of_ble_eq_true rfl) rfl rfl ?_
  refine pm_R_lo pm_M172 (pc' := 23) rfl rfl rfl ?_
  refine pm_R_get pm_M172 (pc' := 26) (v := .ref 43) rfl rfl rfl (Nat.le_of_ble_eq_true rfl) (Nat.le_of_ble_eq_true rfl) rfl rfl ?_
  refine pm_R_op pm_M172 (pc' := 27) (st' := [.int 0, .ref 43]) rfl rfl rfl ?_
  refine pm_R_op pm_M172 (pc' := 28) (st' := [.int 0, .ref 43, .int 0, .ref 43]) rfl rfl rfl ?_
  refine pm_R_iald pm_M172 (pc' := 29) (v := 18) rfl rfl (Nat.le_of_ble_eq_true rfl) rfl rfl rfl ?_
  refine pm_R_op pm_M172 (pc' := 30) (st' := [.int 1, .int 18, .int 0, .ref 43]) rfl rfl rfl ?_
  refine pm_R_op pm_M172 (pc' := 31) (st' := [.int 19, .int 0, .ref 43]) rfl rfl rfl ?_
  refine pm_R_iast pm_M172 (pc' := 32) rfl rfl (Nat.le_of_ble_eq_true rfl) (Nat.le_of_ble_eq_true rfl) rfl rfl ?_
  refine pm_R_lo pm_M172 (pc' := 35) (ls' := [.ref 41, .int x5, .int 0]) (st' := []) rfl rfl rfl ?_
  refine pm_R_br pm_M172 (pc' := 3) rfl rfl ?_
  refine pm_R_lo pm_M172 (pc' := 4) rfl rfl rfl ?_
  refine pm_R_br pm_M172 (pc' := 7) (st' := []) rfl rfl ?_
  refine pm_R_lo pm_M172 (pc' := 8) rfl rfl rfl ?_
  refine pm_R_get pm_M172 (pc' := 11) (v := .ref 42) rfl rfl rfl (Nat.le_of_ble_eq_true rfl) (Nat.le_of_ble_eq_true rfl) rfl rfl ?_
  refine pm_R_lo pm_M172 (pc' := 12) rfl rfl rfl ?_
  refine pm_R_get pm_M172 (pc' := 15) (v := .ref 43) rfl rfl rfl (Nat.le_of_ble_eq_true rfl) (Nat.le_of_ble_eq_true rfl) rfl rfl ?_
  refine pm_R_op pm_M172 (pc' := 16) (st' := [.int 0, .ref 43, .ref 42]) rfl rfl rfl ?_
  refine pm_R_iald pm_M172 (pc' := 17) (v := 19) rfl rfl (Nat.le_of_ble_eq_true rfl) rfl rfl rfl ?_
  refine pm_R_lo pm_M172 (pc' := 18) rfl rfl rfl ?_
  refine pm_R_lo pm_M172 (pc' := 19) rfl rfl rfl ?_
  refine pm_R_op pm_M172 (pc' := 20) (st' := [.int (x5 >>> (0 &&& 31)), .int 19, .ref 42]) rfl rfl rfl ?_
  refine pm_R_op pm_M172 (pc' := 21) (st' := [.int ((Int32.toInt8 ((x5 >>> (0 &&& 31)))).toInt32), .int 19, .ref 42]) rfl rfl rfl ?_
  refine pm_R_bast pm_M172 (pc' := 22) rfl rfl (Nat.le_of_ble_eq_true rfl) (Nat.le_of_ble_eq_true rfl) rfl rfl ?_
  refine pm_R_lo pm_M172 (pc' := 23) rfl rfl rfl ?_
  refine pm_R_get pm_M172 (pc' := 26) (v := .ref 43) rfl rfl rfl (Nat.le_of_ble_eq_true rfl) (Nat.le_of_ble_eq_true rfl) rfl rfl ?_
  refine pm_R_op pm_M172 (pc' := 27) (st' := [.int 0, .ref 43]) rfl rfl rfl ?_
  refine pm_R_op pm_M172 (pc' := 28) (st' := [.int 0, .ref 43, .int 0, .ref 43]) rfl rfl rfl ?_
  refine pm_R_iald pm_M172 (pc' := 29) (v := 19) rfl rfl (Nat.le_of_ble_eq_true rfl) rfl rfl rfl ?_
  refine pm_R_op pm_M172 (pc' := 30) (st' := [.int 1, .int 19, .int 0, .ref 43]) rfl rfl rfl ?_
  refine pm_R_op pm_M172 (pc' := 31) (st' := [.int 20, .int 0, .ref 43]) rfl rfl rfl ?_
  refine pm_R_iast pm_M172 (pc' := 32) rfl rfl (Nat.le_of_ble_eq_true rfl) (Nat.le_of_ble_eq_true rfl) rfl rfl ?_
  refine pm_R_lo pm_M172 (pc' := 35) (ls' := [.ref 41, .int x5, .int (-8)]) (st' := []) rfl rfl rfl ?_
  refine pm_R_br pm_M172 (pc' := 3) rfl rfl ?_
  refine pm_R_lo pm_M172 (pc' := 4) rfl rfl rfl ?_
  refine pm_R_br pm_M172 (pc' := 38) (st' := []) rfl rfl ?_
  refine pm_R_ret pm_M172 (r := none) rfl rfl ?_
  show pm_R _ 171 49 [.ref 41, .int x1, .int x2, .int x3, .int x4, .int x5] [] _ _
  refine pm_R_lo pm_M171 (pc' := 50) rfl rfl rfl ?_
  refine pm_R_get pm_M171 (pc' := 53) (v := .ref 43) rfl rfl rfl (Nat.le_of_ble_eq_true rfl) (Nat.le_of_ble_eq_true rfl) rfl rfl ?_
  refine pm_R_op pm_M171 (pc' := 54) (st' := [.int 0, .ref 43]) rfl rfl rfl ?_
  refine pm_R_iald pm_M171 (pc' := 55) (v := 20) rfl rfl (Nat.le_of_ble_eq_true rfl) rfl rfl rfl ?_
  refine pm_R_ret pm_M171 (r := some (.int 20)) rfl rfl ?_
  show pm_R _ 0 278 [.ref 0, .ref 16, .ref 41, .int 0] [.int 20, .int 20] _ _
  refine pm_R_br pm_M0 (pc' := 2121) (st' := []) (pm_q0_1 (Nat.le_of_ble_eq_true rfl)) rfl ?_
  exact p1_tail (hh 0 (Nat.le_of_ble_eq_true rfl)) (Nat.le_of_ble_eq_true rfl) (Nat.le_of_ble_eq_true rfl) (Nat.le_of_ble_eq_true rfl)
