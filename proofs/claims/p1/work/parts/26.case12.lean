set_option maxRecDepth 100000 in
set_option maxHeartbeats 40000000 in
theorem p1_c37 (xs : Nat → Int32) (f : Nat → pm_E) (hh : ∀ i, i < 72 → f i = pm_fF 7 xs i) (x0 x1 x2 x3 x4 x5 x6 : Int32) (hx0 : xs 0 = x0) (hx1 : xs 1 = x1) (hx2 : xs 2 = x2) (hx3 : xs 3 = x3) (hx4 : xs 4 = x4) (hx5 : xs 5 = x5) (hx6 : xs 6 = x6) : pm_R 100 0 1901 [.ref 0, .ref 16, .ref 41, .int 0] [] (72, 52657, f) p1_Q := by
  refine pm_R_lo pm_M0 (pc' := 1902) (pm_q0_24 (Nat.le_of_ble_eq_true rfl)) rfl rfl ?_
  refine pm_R_lo pm_M0 (pc' := 1903) (pm_q0_24 (Nat.le_of_ble_eq_true rfl)) rfl rfl ?_
  refine pm_R_lo pm_M0 (pc' := 1904) (pm_q0_24 (Nat.le_of_ble_eq_true rfl)) rfl rfl ?_
  refine pm_R_op pm_M0 (pc' := 1905) (st' := [.int 1, .int 0, .ref 0, .ref 16]) (pm_q0_24 (Nat.le_of_ble_eq_true rfl)) rfl rfl ?_
  refine pm_R_op pm_M0 (pc' := 1906) (st' := [.int 1, .ref 0, .ref 16]) (pm_q0_24 (Nat.le_of_ble_eq_true rfl)) rfl rfl ?_
  refine pm_R_iald pm_M0 (pc' := 1907) (v := x1) (pm_q0_24 (Nat.le_of_ble_eq_true rfl)) (hh 0 (Nat.le_of_ble_eq_true rfl)) (Nat.le_of_ble_eq_true rfl) rfl hx1 rfl ?_
  refine pm_R_lo pm_M0 (pc' := 1908) (pm_q0_24 (Nat.le_of_ble_eq_true rfl)) rfl rfl ?_
  refine pm_R_lo pm_M0 (pc' := 1909) (pm_q0_24 (Nat.le_of_ble_eq_true rfl)) rfl rfl ?_
  refine pm_R_op pm_M0 (pc' := 1910) (st' := [.int 2, .int 0, .ref 0, .int x1, .ref 16]) (pm_q0_24 (Nat.le_of_ble_eq_true rfl)) rfl rfl ?_
  refine pm_R_op pm_M0 (pc' := 1911) (st' := [.int 2, .ref 0, .int x1, .ref 16]) (pm_q0_24 (Nat.le_of_ble_eq_true rfl)) rfl rfl ?_
  refine pm_R_iald pm_M0 (pc' := 1912) (v := x2) (pm_q0_24 (Nat.le_of_ble_eq_true rfl)) (hh 0 (Nat.le_of_ble_eq_true rfl)) (Nat.le_of_ble_eq_true rfl) rfl hx2 rfl ?_
  refine pm_R_lo pm_M0 (pc' := 1913) (pm_q0_24 (Nat.le_of_ble_eq_true rfl)) rfl rfl ?_
  refine pm_R_lo pm_M0 (pc' := 1914) (pm_q0_24 (Nat.le_of_ble_eq_true rfl)) rfl rfl ?_
  refine pm_R_op pm_M0 (pc' := 1915) (st' := [.int 3, .int 0, .ref 0, .int x2, .int x1, .ref 16]) (pm_q0_24 (Nat.le_of_ble_eq_true rfl)) rfl rfl ?_
  refine pm_R_op pm_M0 (pc' := 1916) (st' := [.int 3, .ref 0, .int x2, .int x1, .ref 16]) (pm_q0_24 (Nat.le_of_ble_eq_true rfl)) rfl rfl ?_
  refine pm_R_iald pm_M0 (pc' := 1917) (v := x3) (pm_q0_24 (Nat.le_of_ble_eq_true rfl)) (hh 0 (Nat.le_of_ble_eq_true rfl)) (Nat.le_of_ble_eq_true rfl) rfl hx3 rfl ?_
  refine pm_R_lo pm_M0 (pc' := 1918) (pm_q0_24 (Nat.le_of_ble_eq_true rfl)) rfl rfl ?_
  refine pm_R_lo pm_M0 (pc' := 1919) (pm_q0_24 (Nat.le_of_ble_eq_true rfl)) rfl rfl ?_
  refine pm_R_op pm_M0 (pc' := 1920) (st' := [.int 4, .int 0, .ref 0, .int x3, .int x2, .int x1, .ref 16]) (pm_q0_24 (Nat.le_of_ble_eq_true rfl)) rfl rfl ?_
  refine pm_R_op pm_M0 (pc' := 1921) (st' := [.int 4, .ref 0, .int x3, .int x2, .int x1, .ref 16]) (pm_q0_24 (Nat.le_of_ble_eq_true rfl)) rfl rfl ?_
  refine pm_R_iald pm_M0 (pc' := 1922) (v := x4) (pm_q0_24 (Nat.le_of_ble_eq_true rfl)) (hh 0 (Nat.le_of_ble_eq_true rfl)) (Nat.le_of_ble_eq_true rfl) rfl hx4 rfl ?_
  refine pm_R_lo pm_M0 (pc' := 1923) (pm_q0_24 (Nat.le_of_ble_eq_true rfl)) rfl rfl ?_
  refine pm_R_lo pm_M0 (pc' := 1924) (pm_q0_24 (Nat.le_of_ble_eq_true rfl)) rfl rfl ?_
  refine pm_R_op pm_M0 (pc' := 1925) (st' := [.int 5, .int 0, .ref 0, .int x4, .int x3, .int x2, .int x1, .ref 16]) (pm_q0_24 (Nat.le_of_ble_eq_true rfl)) rfl rfl ?_
  refine pm_R_op pm_M0 (pc' := 1926) (st' := [.int 5, .ref 0, .int x4, .int x3, .int x2, .int x1, .ref 16]) (pm_q0_24 (Nat.le_of_ble_eq_true rfl)) rfl rfl ?_
  refine pm_R_iald pm_M0 (pc' := 1927) (v := x5) (pm_q0_24 (Nat.le_of_ble_eq_true rfl)) (hh 0 (Nat.le_of_ble_eq_true rfl)) (Nat.le_of_ble_eq_true rfl) rfl hx5 rfl ?_
  refine pm_R_lo pm_M0 (pc' := 1928) (pm_q0_24 (Nat.le_of_ble_eq_true rfl)) rfl rfl ?_
  refine pm_R_lo pm_M0 (pc' := 1929) (pm_q0_24 (Nat.le_of_ble_eq_true rfl)) rfl rfl ?_
  refine pm_R_op pm_M0 (pc' := 1931) (st' := [.int 6, .int 0, .ref 0, .int x5, .int x4, .int x3, .int x2, .int x1, .ref 16]) (pm_q0_24 (Nat.le_of_ble_eq_true rfl)) rfl rfl ?_
  refine pm_R_op pm_M0 (pc' := 1932) (st' := [.int 6, .ref 0, .int x5, .int x4, .int x3, .int x2, .int x1, .ref 16]) (pm_q0_24 (Nat.le_of_ble_eq_true rfl)) rfl rfl ?_
  refine pm_R_iald pm_M0 (pc' := 1933) (v := x6) (pm_q0_24 (Nat.le_of_ble_eq_true rfl)) (hh 0 (Nat.le_of_ble_eq_true rfl)) (Nat.le_of_ble_eq_true rfl) rfl hx6 rfl ?_
  refine pm_R_cv pm_M0 (pc' := 1936) (a := 16) (ra := [.int x6, .int x5, .int x4, .int x3, .int x2, .int x1]) (rest := []) (ls' := [.ref 16, .int x1, .int x2, .int x3, .int x4, .int x5, .int x6, pm_no]) (pm_q0_24 (Nat.le_of_ble_eq_true rfl)) rfl (Or.inl rfl) pm_M156 (hh 16 (Nat.le_of_ble_eq_true rfl)) rfl (Nat.le_of_ble_eq_true rfl) (Nat.le_of_ble_eq_true rfl) rfl rfl (Nat.le_of_ble_eq_true rfl) rfl rfl ?_
  refine pm_R_lo pm_M156 (pc' := 1) rfl rfl rfl ?_
  refine pm_R_lo pm_M156 (pc' := 2) rfl rfl rfl ?_
  refine pm_R_lo pm_M156 (pc' := 4) rfl rfl rfl ?_
  refine pm_R_lo pm_M156 (pc' := 6) rfl rfl rfl ?_
  refine pm_R_cv pm_M156 (pc' := 9) (a := 16) (ra := [.int x5, .int x4, .int x3]) (rest := []) (ls' := [.ref 16, .int x3, .int x4, .int x5, pm_no]) rfl rfl (Or.inl rfl) pm_M152 (hh 16 (Nat.le_of_ble_eq_true rfl)) rfl (Nat.le_of_ble_eq_true rfl) (Nat.le_of_ble_eq_true rfl) rfl rfl (Nat.le_of_ble_eq_true rfl) rfl rfl ?_
  refine pm_R_lo pm_M152 (pc' := 1) rfl rfl rfl ?_
  refine pm_R_lo pm_M152 (pc' := 2) rfl rfl rfl ?_
  refine pm_R_cv pm_M152 (pc' := 5) (a := 16) (ra := [.int x3]) (rest := []) (ls' := [.ref 16, .int x3]) rfl rfl (Or.inl rfl) pm_M139 (hh 16 (Nat.le_of_ble_eq_true rfl)) rfl (Nat.le_of_ble_eq_true rfl) (Nat.le_of_ble_eq_true rfl) rfl rfl (Nat.le_of_ble_eq_true rfl) rfl rfl ?_
  refine pm_R_lo pm_M139 (pc' := 1) rfl rfl rfl ?_
  refine pm_R_ifc pm_M139 (t := 17) (pc' := 4) rfl rfl rfl (fun c_1 => ?_) (fun c_1 => ?_)
  · refine pm_R_op pm_M139 (pc' := 18) (st' := [.null]) rfl rfl rfl ?_
    refine pm_R_br pm_M139 (pc' := 30) rfl rfl ?_
    refine pm_R_ret pm_M139 (r := some (.null)) rfl rfl ?_
    show pm_R _ 152 5 [.ref 16, .int x3, .int x4, .int x5, pm_no] [.null] _ _
    refine pm_R_lo pm_M152 (pc' := 7) (ls' := [.ref 16, .int x3, .int x4, .int x5, .null]) (st' := []) rfl rfl rfl ?_
    refine pm_R_lo pm_M152 (pc' := 9) rfl rfl rfl ?_
    refine pm_R_br pm_M152 (pc' := 35) rfl rfl ?_
    refine pm_R_op pm_M152 (pc' := 36) (st' := [.int (-1)]) rfl rfl rfl ?_
    refine pm_R_ret pm_M152 (r := some (.int (-1))) rfl rfl ?_
    show pm_R _ 156 9 [.ref 16, .int x1, .int x2, .int x3, .int x4, .int x5, .int x6, pm_no] [.int (-1)] _ _
    refine pm_R_lo pm_M156 (pc' := 11) (ls' := [.ref 16, .int x1, .int x2, .int x3, .int x4, .int x5, .int x6, .int (-1)]) (st' := []) rfl rfl rfl ?_
    refine pm_R_lo pm_M156 (pc' := 12) rfl rfl rfl ?_
    refine pm_R_lo pm_M156 (pc' := 13) rfl rfl rfl ?_
    refine pm_R_cv pm_M156 (pc' := 16) (a := 16) (ra := [.int x1]) (rest := []) (ls' := [.ref 16, .int x1]) rfl rfl (Or.inl rfl) pm_M62 (hh 16 (Nat.le_of_ble_eq_true rfl)) rfl (Nat.le_of_ble_eq_true rfl) (Nat.le_of_ble_eq_true rfl) rfl rfl (Nat.le_of_ble_eq_true rfl) rfl rfl ?_
    refine pm_R_lo pm_M62 (pc' := 1) rfl rfl rfl ?_
    refine pm_R_ifc pm_M62 (t := 17) (pc' := 4) rfl rfl rfl (fun c_2 => ?_) (fun c_2 => ?_)
    · refine pm_R_op pm_M62 (pc' := 18) (st' := [.null]) rfl rfl rfl ?_
      refine pm_R_br pm_M62 (pc' := 30) rfl rfl ?_
      refine pm_R_ret pm_M62 (r := some (.null)) rfl rfl ?_
      show pm_R _ 156 16 [.ref 16, .int x1, .int x2, .int x3, .int x4, .int x5, .int x6, .int (-1)] [.null] _ _
      refine pm_R_br pm_M156 (pc' := 32) rfl rfl ?_
      refine pm_R_op pm_M156 (pc' := 33) (st' := [.int (-1)]) rfl rfl rfl ?_
      refine pm_R_ret pm_M156 (r := some (.int (-1))) rfl rfl ?_
      show pm_R _ 0 1936 [.ref 0, .ref 16, .ref 41, .int 0] [.int (-1)] _ _
      refine pm_R_lo pm_M0 (pc' := 1937) (pm_q0_24 (Nat.le_of_ble_eq_true rfl)) rfl rfl ?_
      refine pm_R_lo pm_M0 (pc' := 1938) (pm_q0_25 (Nat.le_of_ble_eq_true rfl)) rfl rfl ?_
      refine pm_R_lo pm_M0 (pc' := 1939) (pm_q0_25 (Nat.le_of_ble_eq_true rfl)) rfl rfl ?_
      refine pm_R_op pm_M0 (pc' := 1940) (st' := [.int 1, .int 0, .ref 0, .ref 41, .int (-1)]) (pm_q0_25 (Nat.le_of_ble_eq_true rfl)) rfl rfl ?_
      refine pm_R_op pm_M0 (pc' := 1941) (st' := [.int 1, .ref 0, .ref 41, .int (-1)]) (pm_q0_25 (Nat.le_of_ble_eq_true rfl)) rfl rfl ?_
      refine pm_R_iald pm_M0 (pc' := 1942) (v := x1) (pm_q0_25 (Nat.le_of_ble_eq_true rfl)) (hh 0 (Nat.le_of_ble_eq_true rfl)) (Nat.le_of_ble_eq_true rfl) rfl hx1 rfl ?_
      refine pm_R_lo pm_M0 (pc' := 1943) (pm_q0_25 (Nat.le_of_ble_eq_true rfl)) rfl rfl ?_
      refine pm_R_lo pm_M0 (pc' := 1944) (pm_q0_25 (Nat.le_of_ble_eq_true rfl)) rfl rfl ?_
      refine pm_R_op pm_M0 (pc' := 1945) (st' := [.int 2, .int 0, .ref 0, .int x1, .ref 41, .int (-1)]) (pm_q0_25 (Nat.le_of_ble_eq_true rfl)) rfl rfl ?_
      refine pm_R_op pm_M0 (pc' := 1946) (st' := [.int 2, .ref 0, .int x1, .ref 41, .int (-1)]) (pm_q0_25 (Nat.le_of_ble_eq_true rfl)) rfl rfl ?_
      refine pm_R_iald pm_M0 (pc' := 1947) (v := x2) (pm_q0_25 (Nat.le_of_ble_eq_true rfl)) (hh 0 (Nat.le_of_ble_eq_true rfl)) (Nat.le_of_ble_eq_true rfl) rfl hx2 rfl ?_
      refine pm_R_lo pm_M0 (pc' := 1948) (pm_q0_25 (Nat.le_of_ble_eq_true rfl)) rfl rfl ?_
      refine pm_R_lo pm_M0 (pc' := 1949) (pm_q0_25 (Nat.le_of_ble_eq_true rfl)) rfl rfl ?_
      refine pm_R_op pm_M0 (pc' := 1950) (st' := [.int 3, .int 0, .ref 0, .int x2, .int x1, .ref 41, .int (-1)]) (pm_q0_25 (Nat.le_of_ble_eq_true rfl)) rfl rfl ?_
      refine pm_R_op pm_M0 (pc' := 1951) (st' := [.int 3, .ref 0, .int x2, .int x1, .ref 41, .int (-1)]) (pm_q0_25 (Nat.le_of_ble_eq_true rfl)) rfl rfl ?_
      refine pm_R_iald pm_M0 (pc' := 1952) (v := x3) (pm_q0_25 (Nat.le_of_ble_eq_true rfl)) (hh 0 (Nat.le_of_ble_eq_true rfl)) (Nat.le_of_ble_eq_true rfl) rfl hx3 rfl ?_
      refine pm_R_lo pm_M0 (pc' := 1953) (pm_q0_25 (Nat.le_of_ble_eq_true rfl)) rfl rfl ?_
      refine pm_R_lo pm_M0 (pc' := 1954) (pm_q0_25 (Nat.le_of_ble_eq_true rfl)) rfl rfl ?_
      refine pm_R_op pm_M0 (pc' := 1955) (st' := [.int 4, .int 0, .ref 0, .int x3, .int x2, .int x1, .ref 41, .int (-1)]) (pm_q0_25 (Nat.le_of_ble_eq_true rfl)) rfl rfl ?_
      refine pm_R_op pm_M0 (pc' := 1956) (st' := [.int 4, .ref 0, .int x3, .int x2, .int x1, .ref 41, .int (-1)]) (pm_q0_25 (Nat.le_of_ble_eq_true rfl)) rfl rfl ?_
      refine pm_R_iald pm_M0 (pc' := 1957) (v := x4) (pm_q0_25 (Nat.le_of_ble_eq_true rfl)) (hh 0 (Nat.le_of_ble_eq_true rfl)) (Nat.le_of_ble_eq_true rfl) rfl hx4 rfl ?_
      refine pm_R_lo pm_M0 (pc' := 1958) (pm_q0_25 (Nat.le_of_ble_eq_true rfl)) rfl rfl ?_
      refine pm_R_lo pm_M0 (pc' := 1959) (pm_q0_25 (Nat.le_of_ble_eq_true rfl)) rfl rfl ?_
      refine pm_R_op pm_M0 (pc' := 1960) (st' := [.int 5, .int 0, .ref 0, .int x4, .int x3, .int x2, .int x1, .ref 41, .int (-1)]) (pm_q0_25 (Nat.le_of_ble_eq_true rfl)) rfl rfl ?_
      refine pm_R_op pm_M0 (pc' := 1961) (st' := [.int 5, .ref 0, .int x4, .int x3, .int x2, .int x1, .ref 41, .int (-1)]) (pm_q0_25 (Nat.le_of_ble_eq_true rfl)) rfl rfl ?_
      refine pm_R_iald pm_M0 (pc' := 1962) (v := x5) (pm_q0_25 (Nat.le_of_ble_eq_true rfl)) (hh 0 (Nat.le_of_ble_eq_true rfl)) (Nat.le_of_ble_eq_true rfl) rfl hx5 rfl ?_
      refine pm_R_lo pm_M0 (pc' := 1963) (pm_q0_25 (Nat.le_of_ble_eq_true rfl)) rfl rfl ?_
      refine pm_R_lo pm_M0 (pc' := 1964) (pm_q0_25 (Nat.le_of_ble_eq_true rfl)) rfl rfl ?_
      refine pm_R_op pm_M0 (pc' := 1966) (st' := [.int 6, .int 0, .ref 0, .int x5, .int x4, .int x3, .int x2, .int x1, .ref 41, .int (-1)]) (pm_q0_25 (Nat.le_of_ble_eq_true rfl)) rfl rfl ?_
      refine pm_R_op pm_M0 (pc' := 1967) (st' := [.int 6, .ref 0, .int x5, .int x4, .int x3, .int x2, .int x1, .ref 41, .int (-1)]) (pm_q0_25 (Nat.le_of_ble_eq_true rfl)) rfl rfl ?_
      refine pm_R_iald pm_M0 (pc' := 1968) (v := x6) (pm_q0_25 (Nat.le_of_ble_eq_true rfl)) (hh 0 (Nat.le_of_ble_eq_true rfl)) (Nat.le_of_ble_eq_true rfl) rfl hx6 rfl ?_
      refine pm_R_cv pm_M0 (pc' := 1971) (a := 41) (ra := [.int x6, .int x5, .int x4, .int x3, .int x2, .int x1]) (rest := [.int (-1)]) (ls' := [.ref 41, .int x1, .int x2, .int x3, .int x4, .int x5, .int x6, pm_no]) (pm_q0_25 (Nat.le_of_ble_eq_true rfl)) rfl (Or.inl rfl) pm_M290 (hh 41 (Nat.le_of_ble_eq_true rfl)) rfl (Nat.le_of_ble_eq_true rfl) (Nat.le_of_ble_eq_true rfl) rfl rfl (Nat.le_of_ble_eq_true rfl) rfl rfl ?_
      refine pm_R_lo pm_M290 (pc' := 1) rfl rfl rfl ?_
      refine pm_R_op pm_M290 (pc' := 2) (st' := [.int 0, .ref 41]) rfl rfl rfl ?_
      refine pm_R_put pm_M290 (pc' := 5) (fs' := [.int 0, .ref 42, .ref 43, .ref 44, .ref 45, .ref 46, .ref 47, .ref 48, .ref 49, .ref 50, .int 0, .int 0, .int 0, .int 0, .int 0, .long 0, .int 0, .int 0, .int 0, .ref 51, .ref 52, .int 0, .int 0, .int 0, .int 0, .ref 53, .int 0, .int 0, .ref 54, .ref 55, .ref 56, .int 0, .ref 57, .ref 58, .ref 59, .ref 60, .ref 61, .ref 62, .ref 63, .ref 64, .ref 65, .ref 66, .int 0, .int 0, .int 0, .ref 67, .ref 68, .int 0, .ref 69, .int 0, .int 0, .ref 70, .ref 71]) rfl rfl rfl (hh 41 (Nat.le_of_ble_eq_true rfl)) (Nat.le_of_ble_eq_true rfl) (Nat.le_of_ble_eq_true rfl) (Nat.le_of_ble_eq_true rfl) rfl (Or.inl rfl) rfl rfl ?_
      refine pm_R_lo pm_M290 (pc' := 6) rfl rfl rfl ?_
      refine pm_R_lo pm_M290 (pc' := 7) rfl rfl rfl ?_
      refine pm_R_lo pm_M290 (pc' := 9) rfl rfl rfl ?_
      refine pm_R_lo pm_M290 (pc' := 11) rfl rfl rfl ?_
      refine pm_R_cv pm_M290 (pc' := 14) (a := 41) (ra := [.int x5, .int x4, .int x3]) (rest := []) (ls' := [.ref 41, .int x3, .int x4, .int x5, pm_no, pm_no, pm_no, pm_no, pm_no]) rfl rfl (Or.inl rfl) pm_M266 rfl rfl (Nat.le_of_ble_eq_true rfl) (Nat.le_of_ble_eq_true rfl) rfl rfl (Nat.le_of_ble_eq_true rfl) rfl rfl ?_
      refine pm_R_lo pm_M266 (pc' := 1) rfl rfl rfl ?_
      refine pm_R_lo pm_M266 (pc' := 2) rfl rfl rfl ?_
      refine pm_R_cv pm_M266 (pc' := 5) (a := 41) (ra := [.int x3]) (rest := []) (ls' := [.ref 41, .int x3, pm_no, pm_no, pm_no, pm_no]) rfl rfl (Or.inl rfl) pm_M254 rfl rfl (Nat.le_of_ble_eq_true rfl) (Nat.le_of_ble_eq_true rfl) rfl rfl (Nat.le_of_ble_eq_true rfl) rfl rfl ?_
      refine pm_R_lo pm_M254 (pc' := 1) rfl rfl rfl ?_
      refine pm_R_op pm_M254 (pc' := 2) (st' := [.int 2, .ref 41]) rfl rfl rfl ?_
      refine pm_R_lo pm_M254 (pc' := 3) rfl rfl rfl ?_
      refine pm_R_cv pm_M254 (pc' := 6) (a := 41) (ra := [.int x3, .int 2]) (rest := []) (ls' := [.ref 41, .int 2, .int x3]) rfl rfl (Or.inl rfl) pm_M177 rfl rfl (Nat.le_of_ble_eq_true rfl) (Nat.le_of_ble_eq_true rfl) rfl rfl (Nat.le_of_ble_eq_true rfl) rfl rfl ?_
      refine pm_R_lo pm_M177 (pc' := 1) rfl rfl rfl ?_
      refine pm_R_op pm_M177 (pc' := 2) (st' := [.int 0, .int x3]) rfl rfl rfl ?_
      refine pm_R_lo pm_M177 (pc' := 3) rfl rfl rfl ?_
      refine pm_R_get pm_M177 (pc' := 6) (v := .ref 46) rfl rfl rfl (Nat.le_of_ble_eq_true rfl) (Nat.le_of_ble_eq_true rfl) rfl rfl ?_
      refine pm_R_lo pm_M177 (pc' := 7) rfl rfl rfl ?_
      refine pm_R_iald pm_M177 (pc' := 8) (v := 0) rfl (hh 46 (Nat.le_of_ble_eq_true rfl)) (Nat.le_of_ble_eq_true rfl) rfl rfl rfl ?_
      refine pm_R_op pm_M177 (pc' := 9) (st' := [.int 1, .int 0, .int 0, .int x3]) rfl rfl rfl ?_
      refine pm_R_op pm_M177 (pc' := 10) (st' := [.int (-1), .int 0, .int x3]) rfl rfl rfl ?_
      refine pm_R_cs pm_M177 (pc' := 13) (ra := [.int (-1), .int 0, .int x3]) (rest := []) (ls' := [.int x3, .int 0, .int (-1)]) rfl rfl (Or.inl rfl) pm_M174 rfl rfl (Nat.le_of_ble_eq_true rfl) rfl rfl ?_
      refine pm_R_lo pm_M174 (pc' := 1) rfl rfl rfl ?_
      refine pm_R_lo pm_M174 (pc' := 2) rfl rfl rfl ?_
      refine pm_R_icmp pm_M174 (t := 14) (pc' := 5) rfl rfl rfl (fun c_3 => ?_) (fun c_3 => by exact absurd c_1 c_3)
      refine pm_R_op pm_M174 (pc' := 15) (st' := [.int 0]) rfl rfl rfl ?_
      refine pm_R_ret pm_M174 (r := some (.int 0)) rfl rfl ?_
      show pm_R _ 177 13 [.ref 41, .int 2, .int x3] [.int 0] _ _
      refine pm_R_ret pm_M177 (r := some (.int 0)) rfl rfl ?_
      show pm_R _ 254 6 [.ref 41, .int x3, pm_no, pm_no, pm_no, pm_no] [.int 0] _ _
      refine pm_R_br pm_M254 (pc' := 9) (st' := []) rfl rfl ?_
      refine pm_R_op pm_M254 (pc' := 10) (st' := [.int 0]) rfl rfl rfl ?_
      refine pm_R_ret pm_M254 (r := some (.int 0)) rfl rfl ?_
      show pm_R _ 266 5 [.ref 41, .int x3, .int x4, .int x5, pm_no, pm_no, pm_no, pm_no, pm_no] [.int 0] _ _
      refine pm_R_br pm_M266 (pc' := 29) (st' := []) rfl rfl ?_
      refine pm_R_op pm_M266 (pc' := 30) (st' := [.int (-1)]) rfl rfl rfl ?_
      refine pm_R_ret pm_M266 (r := some (.int (-1))) rfl rfl ?_
      show pm_R _ 290 14 [.ref 41, .int x1, .int x2, .int x3, .int x4, .int x5, .int x6, pm_no] [.int (-1)] _ _
      refine pm_R_lo pm_M290 (pc' := 16) (ls' := [.ref 41, .int x1, .int x2, .int x3, .int x4, .int x5, .int x6, .int (-1)]) (st' := []) rfl rfl rfl ?_
      refine pm_R_lo pm_M290 (pc' := 18) rfl rfl rfl ?_
      refine pm_R_op pm_M290 (pc' := 19) (st' := [.int (-1), .int (-1)]) rfl rfl rfl ?_
      refine pm_R_br pm_M290 (pc' := 41) (st' := []) rfl rfl ?_
      refine pm_R_op pm_M290 (pc' := 42) (st' := [.int (-1)]) rfl rfl rfl ?_
      refine pm_R_ret pm_M290 (r := some (.int (-1))) rfl rfl ?_
      show pm_R _ 0 1971 [.ref 0, .ref 16, .ref 41, .int 0] [.int (-1), .int (-1)] _ _
      refine pm_R_br pm_M0 (pc' := 2121) (st' := []) (pm_q0_25 (Nat.le_of_ble_eq_true rfl)) rfl ?_
      exact p1_tail (hh 0 (Nat.le_of_ble_eq_true rfl)) (Nat.le_of_ble_eq_true rfl) (Nat.le_of_ble_eq_true rfl) (Nat.le_of_ble_eq_true rfl)
    · refine pm_R_lo pm_M62 (pc' := 5) rfl rfl rfl ?_
      refine pm_R_lo pm_M62 (pc' := 6) rfl rfl rfl ?_
      refine pm_R_get pm_M62 (pc' := 9) (v := .ref 17) rfl rfl (hh 16 (Nat.le_of_ble_eq_true rfl)) (Nat.le_of_ble_eq_true rfl) (Nat.le_of_ble_eq_true rfl) rfl rfl ?_
      refine pm_R_get pm_M62 (pc' := 12) (v := .ref 23) rfl rfl (hh 17 (Nat.le_of_ble_eq_true rfl)) (Nat.le_of_ble_eq_true rfl) (Nat.le_of_ble_eq_true rfl) rfl rfl ?_
      refine pm_R_op pm_M62 (pc' := 13) (st' := [.int 0, .ref 23, .int x1]) rfl rfl rfl ?_
      refine pm_R_iald pm_M62 (pc' := 14) (v := 0) rfl (hh 23 (Nat.le_of_ble_eq_true rfl)) (Nat.le_of_ble_eq_true rfl) rfl rfl rfl ?_
      refine pm_R_icmp pm_M62 (t := 21) (pc' := 17) rfl rfl rfl (fun c_4 => by exact absurd c_4 c_2) (fun c_4 => ?_)
      refine pm_R_op pm_M62 (pc' := 18) (st' := [.null]) rfl rfl rfl ?_
      refine pm_R_br pm_M62 (pc' := 30) rfl rfl ?_
      refine pm_R_ret pm_M62 (r := some (.null)) rfl rfl ?_
      show pm_R _ 156 16 [.ref 16, .int x1, .int x2, .int x3, .int x4, .int x5, .int x6, .int (-1)] [.null] _ _
      refine pm_R_br pm_M156 (pc' := 32) rfl rfl ?_
      refine pm_R_op pm_M156 (pc' := 33) (st' := [.int (-1)]) rfl rfl rfl ?_
      refine pm_R_ret pm_M156 (r := some (.int (-1))) rfl rfl ?_
      show pm_R _ 0 1936 [.ref 0, .ref 16, .ref 41, .int 0] [.int (-1)] _ _
      refine pm_R_lo pm_M0 (pc' := 1937) (pm_q0_24 (Nat.le_of_ble_eq_true rfl)) rfl rfl ?_
      refine pm_R_lo pm_M0 (pc' := 1938) (pm_q0_25 (Nat.le_of_ble_eq_true rfl)) rfl rfl ?_
      refine pm_R_lo pm_M0 (pc' := 1939) (pm_q0_25 (Nat.le_of_ble_eq_true rfl)) rfl rfl ?_
      refine pm_R_op pm_M0 (pc' := 1940) (st' := [.int 1, .int 0, .ref 0, .ref 41, .int (-1)]) (pm_q0_25 (Nat.le_of_ble_eq_true rfl)) rfl rfl ?_
      refine pm_R_op pm_M0 (pc' := 1941) (st' := [.int 1, .ref 0, .ref 41, .int (-1)]) (pm_q0_25 (Nat.le_of_ble_eq_true rfl)) rfl rfl ?_
      refine pm_R_iald pm_M0 (pc' := 1942) (v := x1) (pm_q0_25 (Nat.le_of_ble_eq_true rfl)) (hh 0 (Nat.le_of_ble_eq_true rfl)) (Nat.le_of_ble_eq_true rfl) rfl hx1 rfl ?_
      refine pm_R_lo pm_M0 (pc' := 1943) (pm_q0_25 (Nat.le_of_ble_eq_true rfl)) rfl rfl ?_
      refine pm_R_lo pm_M0 (pc' := 1944) (pm_q0_25 (Nat.le_of_ble_eq_true rfl)) rfl rfl ?_
      refine pm_R_op pm_M0 (pc' := 1945) (st' := [.int 2, .int 0, .ref 0, .int x1, .ref 41, .int (-1)]) (pm_q0_25 (Nat.le_of_ble_eq_true rfl)) rfl rfl ?_
      refine pm_R_op pm_M0 (pc' := 1946) (st' := [.int 2, .ref 0, .int x1, .ref 41, .int (-1)]) (pm_q0_25 (Nat.le_of_ble_eq_true rfl)) rfl rfl ?_
      refine pm_R_iald pm_M0 (pc' := 1947) (v := x2) (pm_q0_25 (Nat.le_of_ble_eq_true rfl)) (hh 0 (Nat.le_of_ble_eq_true rfl)) (Nat.le_of_ble_eq_true rfl) rfl hx2 rfl ?_
      refine pm_R_lo pm_M0 (pc' := 1948) (pm_q0_25 (Nat.le_of_ble_eq_true rfl)) rfl rfl ?_
      refine pm_R_lo pm_M0 (pc' := 1949) (pm_q0_25 (Nat.le_of_ble_eq_true rfl)) rfl rfl ?_
      refine pm_R_op pm_M0 (pc' := 1950) (st' := [.int 3, .int 0, .ref 0, .int x2, .int x1, .ref 41, .int (-1)]) (pm_q0_25 (Nat.le_of_ble_eq_true rfl)) rfl rfl ?_
      refine pm_R_op pm_M0 (pc' := 1951) (st' := [.int 3, .ref 0, .int x2, .int x1, .ref 41, .int (-1)]) (pm_q0_25 (Nat.le_of_ble_eq_true rfl)) rfl rfl ?_
      refine pm_R_iald pm_M0 (pc' := 1952) (v := x3) (pm_q0_25 (Nat.le_of_ble_eq_true rfl)) (hh 0 (Nat.le_of_ble_eq_true rfl)) (Nat.le_of_ble_eq_true rfl) rfl hx3 rfl ?_
      refine pm_R_lo pm_M0 (pc' := 1953) (pm_q0_25 (Nat.le_of_ble_eq_true rfl)) rfl rfl ?_
      refine pm_R_lo pm_M0 (pc' := 1954) (pm_q0_25 (Nat.le_of_ble_eq_true rfl)) rfl rfl ?_
      refine pm_R_op pm_M0 (pc' := 1955) (st' := [.int 4, .int 0, .ref 0, .int x3, .int x2, .int x1, .ref 41, .int (-1)]) (pm_q0_25 (Nat.le_of_ble_eq_true rfl)) rfl rfl ?_
      refine pm_R_op pm_M0 (pc' := 1956) (st' := [.int 4, .ref 0, .int x3, .int x2, .int x1, .ref 41, .int (-1)]) (pm_q0_25 (Nat.le_of_ble_eq_true rfl)) rfl rfl ?_
      refine pm_R_iald pm_M0 (pc' := 1957) (v := x4) (pm_q0_25 (Nat.le_of_ble_eq_true rfl)) (hh 0 (Nat.le_of_ble_eq_true rfl)) (Nat.le_of_ble_eq_true rfl) rfl hx4 rfl ?_
      refine pm_R_lo pm_M0 (pc' := 1958) (pm_q0_25 (Nat.le_of_ble_eq_true rfl)) rfl rfl ?_
      refine pm_R_lo pm_M0 (pc' := 1959) (pm_q0_25 (Nat.le_of_ble_eq_true rfl)) rfl rfl ?_
      refine pm_R_op pm_M0 (pc' := 1960) (st' := [.int 5, .int 0, .ref 0, .int x4, .int x3, .int x2, .int x1, .ref 41, .int (-1)]) (pm_q0_25 (Nat.le_of_ble_eq_true rfl)) rfl rfl ?_
      refine pm_R_op pm_M0 (pc' := 1961) (st' := [.int 5, .ref 0, .int x4, .int x3, .int x2, .int x1, .ref 41, .int (-1)]) (pm_q0_25 (Nat.le_of_ble_eq_true rfl)) rfl rfl ?_
      refine pm_R_iald pm_M0 (pc' := 1962) (v := x5) (pm_q0_25 (Nat.le_of_ble_eq_true rfl)) (hh 0 (Nat.le_of_ble_eq_true rfl)) (Nat.le_of_ble_eq_true rfl) rfl hx5 rfl ?_
      refine pm_R_lo pm_M0 (pc' := 1963) (pm_q0_25 (Nat.le_of_ble_eq_true rfl)) rfl rfl ?_
      refine pm_R_lo pm_M0 (pc' := 1964) (pm_q0_25 (Nat.le_of_ble_eq_true rfl)) rfl rfl ?_
      refine pm_R_op pm_M0 (pc' := 1966) (st' := [.int 6, .int 0, .ref 0, .int x5, .int x4, .int x3, .int x2, .int x1, .ref 41, .int (-1)]) (pm_q0_25 (Nat.le_of_ble_eq_true rfl)) rfl rfl ?_
      refine pm_R_op pm_M0 (pc' := 1967) (st' := [.int 6, .ref 0, .int x5, .int x4, .int x3, .int x2, .int x1, .ref 41, .int (-1)]) (pm_q0_25 (Nat.le_of_ble_eq_true rfl)) rfl rfl ?_
      refine pm_R_iald pm_M0 (pc' := 1968) (v := x6) (pm_q0_25 (Nat.le_of_ble_eq_true rfl)) (hh 0 (Nat.le_of_ble_eq_true rfl)) (Nat.le_of_ble_eq_true rfl) rfl hx6 rfl ?_
      refine pm_R_cv pm_M0 (pc' := 1971) (a := 41) (ra := [.int x6, .int x5, .int x4, .int x3, .int x2, .int x1]) (rest := [.int (-1)]) (ls' := [.ref 41, .int x1, .int x2, .int x3, .int x4, .int x5, .int x6, pm_no]) (pm_q0_25 (Nat.le_of_ble_eq_true rfl)) rfl (Or.inl rfl) pm_M290 (hh 41 (Nat.le_of_ble_eq_true rfl)) rfl (Nat.le_of_ble_eq_true rfl) (Nat.le_of_ble_eq_true rfl) rfl rfl (Nat.le_of_ble_eq_true rfl) rfl rfl ?_
      refine pm_R_lo pm_M290 (pc' := 1) rfl rfl rfl ?_
      refine pm_R_op pm_M290 (pc' := 2) (st' := [.int 0, .ref 41]) rfl rfl rfl ?_
      refine pm_R_put pm_M290 (pc' := 5) (fs' := [.int 0, .ref 42, .ref 43, .ref 44, .ref 45, .ref 46, .ref 47, .ref 48, .ref 49, .ref 50, .int 0, .int 0, .int 0, .int 0, .int 0, .long 0, .int 0, .int 0, .int 0, .ref 51, .ref 52, .int 0, .int 0, .int 0, .int 0, .ref 53, .int 0, .int 0, .ref 54, .ref 55, .ref 56, .int 0, .ref 57, .ref 58, .ref 59, .ref 60, .ref 61, .ref 62, .ref 63, .ref 64, .ref 65, .ref 66, .int 0, .int 0, .int 0, .ref 67, .ref 68, .int 0, .ref 69, .int 0, .int 0, .ref 70, .ref 71]) rfl rfl rfl (hh 41 (Nat.le_of_ble_eq_true rfl)) (Nat.le_of_ble_eq_true rfl) (Nat.le_of_ble_eq_true rfl) (Nat.le_of_ble_eq_true rfl) rfl (Or.inl rfl) rfl rfl ?_
      refine pm_R_lo pm_M290 (pc' := 6) rfl rfl rfl ?_
      refine pm_R_lo pm_M290 (pc' := 7) rfl rfl rfl ?_
      refine pm_R_lo pm_M290 (pc' := 9) rfl rfl rfl ?_
      refine pm_R_lo pm_M290 (pc' := 11) rfl rfl rfl ?_
      refine pm_R_cv pm_M290 (pc' := 14) (a := 41) (ra := [.int x5, .int x4, .int x3]) (rest := []) (ls' := [.ref 41, .int x3, .int x4, .int x5, pm_no, pm_no, pm_no, pm_no, pm_no]) rfl rfl (Or.inl rfl) pm_M266 rfl rfl (Nat.le_of_ble_eq_true rfl) (Nat.le_of_ble_eq_true rfl) rfl rfl (Nat.le_of_ble_eq_true rfl) rfl rfl ?_
      refine pm_R_lo pm_M266 (pc' := 1) rfl rfl rfl ?_
      refine pm_R_lo pm_M266 (pc' := 2) rfl rfl rfl ?_
      refine pm_R_cv pm_M266 (pc' := 5) (a := 41) (ra := [.int x3]) (rest := []) (ls' := [.ref 41, .int x3, pm_no, pm_no, pm_no, pm_no]) rfl rfl (Or.inl rfl) pm_M254 rfl rfl (Nat.le_of_ble_eq_true rfl) (Nat.le_of_ble_eq_true rfl) rfl rfl (Nat.le_of_ble_eq_true rfl) rfl rfl ?_
      refine pm_R_lo pm_M254 (pc' := 1) rfl rfl rfl ?_
      refine pm_R_op pm_M254 (pc' := 2) (st' := [.int 2, .ref 41]) rfl rfl rfl ?_
      refine pm_R_lo pm_M254 (pc' := 3) rfl rfl rfl ?_
      refine pm_R_cv pm_M254 (pc' := 6) (a := 41) (ra := [.int x3, .int 2]) (rest := []) (ls' := [.ref 41, .int 2, .int x3]) rfl rfl (Or.inl rfl) pm_M177 rfl rfl (Nat.le_of_ble_eq_true rfl) (Nat.le_of_ble_eq_true rfl) rfl rfl (Nat.le_of_ble_eq_true rfl) rfl rfl ?_
      refine pm_R_lo pm_M177 (pc' := 1) rfl rfl rfl ?_
      refine pm_R_op pm_M177 (pc' := 2) (st' := [.int 0, .int x3]) rfl rfl rfl ?_
      refine pm_R_lo pm_M177 (pc' := 3) rfl rfl rfl ?_
      refine pm_R_get pm_M177 (pc' := 6) (v := .ref 46) rfl rfl rfl (Nat.le_of_ble_eq_true rfl) (Nat.le_of_ble_eq_true rfl) rfl rfl ?_
      refine pm_R_lo pm_M177 (pc' := 7) rfl rfl rfl ?_
      refine pm_R_iald pm_M177 (pc' := 8) (v := 0) rfl (hh 46 (Nat.le_of_ble_eq_true rfl)) (Nat.le_of_ble_eq_true rfl) rfl rfl rfl ?_
      refine pm_R_op pm_M177 (pc' := 9) (st' := [.int 1, .int 0, .int 0, .int x3]) rfl rfl rfl ?_
      refine pm_R_op pm_M177 (pc' := 10) (st' := [.int (-1), .int 0, .int x3]) rfl rfl rfl ?_
      refine pm_R_cs pm_M177 (pc' := 13) (ra := [.int (-1), .int 0, .int x3]) (rest := []) (ls' := [.int x3, .int 0, .int (-1)]) rfl rfl (Or.inl rfl) pm_M174 rfl rfl (Nat.le_of_ble_eq_true rfl) rfl rfl ?_
      refine pm_R_lo pm_M174 (pc' := 1) rfl rfl rfl ?_
      refine pm_R_lo pm_M174 (pc' := 2) rfl rfl rfl ?_
      refine pm_R_icmp pm_M174 (t := 14) (pc' := 5) rfl rfl rfl (fun c_5 => ?_) (fun c_5 => by exact absurd c_1 c_5)
      refine pm_R_op pm_M174 (pc' := 15) (st' := [.int 0]) rfl rfl rfl ?_
      refine pm_R_ret pm_M174 (r := some (.int 0)) rfl rfl ?_
      show pm_R _ 177 13 [.ref 41, .int 2, .int x3] [.int 0] _ _
      refine pm_R_ret pm_M177 (r := some (.int 0)) rfl rfl ?_
      show pm_R _ 254 6 [.ref 41, .int x3, pm_no, pm_no, pm_no, pm_no] [.int 0] _ _
      refine pm_R_br pm_M254 (pc' := 9) (st' := []) rfl rfl ?_
      refine pm_R_op pm_M254 (pc' := 10) (st' := [.int 0]) rfl rfl rfl ?_
      refine pm_R_ret pm_M254 (r := some (.int 0)) rfl rfl ?_
      show pm_R _ 266 5 [.ref 41, .int x3, .int x4, .int x5, pm_no, pm_no, pm_no, pm_no, pm_no] [.int 0] _ _
      refine pm_R_br pm_M266 (pc' := 29) (st' := []) rfl rfl ?_
      refine pm_R_op pm_M266 (pc' := 30) (st' := [.int (-1)]) rfl rfl rfl ?_
      refine pm_R_ret pm_M266 (r := some (.int (-1))) rfl rfl ?_
      show pm_R _ 290 14 [.ref 41, .int x1, .int x2, .int x3, .int x4, .int x5, .int x6, pm_no] [.int (-1)] _ _
      refine pm_R_lo pm_M290 (pc' := 16) (ls' := [.ref 41, .int x1, .int x2, .int x3, .int x4, .int x5, .int x6, .int (-1)]) (st' := []) rfl rfl rfl ?_
      refine pm_R_lo pm_M290 (pc' := 18) rfl rfl rfl ?_
      refine pm_R_op pm_M290 (pc' := 19) (st' := [.int (-1), .int (-1)]) rfl rfl rfl ?_
      refine pm_R_br pm_M290 (pc' := 41) (st' := []) rfl rfl ?_
      refine pm_R_op pm_M290 (pc' := 42) (st' := [.int (-1)]) rfl rfl rfl ?_
      refine pm_R_ret pm_M290 (r := some (.int (-1))) rfl rfl ?_
      show pm_R _ 0 1971 [.ref 0, .ref 16, .ref 41, .int 0] [.int (-1), .int (-1)] _ _
      refine pm_R_br pm_M0 (pc' := 2121) (st' := []) (pm_q0_25 (Nat.le_of_ble_eq_true rfl)) rfl ?_
      exact p1_tail (hh 0 (Nat.le_of_ble_eq_true rfl)) (Nat.le_of_ble_eq_true rfl) (Nat.le_of_ble_eq_true rfl) (Nat.le_of_ble_eq_true rfl)
  · refine pm_R_lo pm_M139 (pc' := 5) rfl rfl rfl ?_
    refine pm_R_lo pm_M139 (pc' := 6) rfl rfl rfl ?_
    refine pm_R_get pm_M139 (pc' := 9) (v := .ref 17) rfl rfl (hh 16 (Nat.le_of_ble_eq_true rfl)) (Nat.le_of_ble_eq_true rfl) (Nat.le_of_ble_eq_true rfl) rfl rfl ?_
    refine pm_R_get pm_M139 (pc' := 12) (v := .ref 23) rfl rfl (hh 17 (Nat.le_of_ble_eq_true rfl)) (Nat.le_of_ble_eq_true rfl) (Nat.le_of_ble_eq_true rfl) rfl rfl ?_
    refine pm_R_op pm_M139 (pc' := 13) (st' := [.int 2, .ref 23, .int x3]) rfl rfl rfl ?_
    refine pm_R_iald pm_M139 (pc' := 14) (v := 0) rfl (hh 23 (Nat.le_of_ble_eq_true rfl)) (Nat.le_of_ble_eq_true rfl) rfl rfl rfl ?_
    refine pm_R_icmp pm_M139 (t := 21) (pc' := 17) rfl rfl rfl (fun c_6 => by exact absurd c_6 c_1) (fun c_6 => ?_)
    refine pm_R_op pm_M139 (pc' := 18) (st' := [.null]) rfl rfl rfl ?_
    refine pm_R_br pm_M139 (pc' := 30) rfl rfl ?_
    refine pm_R_ret pm_M139 (r := some (.null)) rfl rfl ?_
    show pm_R _ 152 5 [.ref 16, .int x3, .int x4, .int x5, pm_no] [.null] _ _
    refine pm_R_lo pm_M152 (pc' := 7) (ls' := [.ref 16, .int x3, .int x4, .int x5, .null]) (st' := []) rfl rfl rfl ?_
    refine pm_R_lo pm_M152 (pc' := 9) rfl rfl rfl ?_
    refine pm_R_br pm_M152 (pc' := 35) rfl rfl ?_
    refine pm_R_op pm_M152 (pc' := 36) (st' := [.int (-1)]) rfl rfl rfl ?_
    refine pm_R_ret pm_M152 (r := some (.int (-1))) rfl rfl ?_
    show pm_R _ 156 9 [.ref 16, .int x1, .int x2, .int x3, .int x4, .int x5, .int x6, pm_no] [.int (-1)] _ _
    refine pm_R_lo pm_M156 (pc' := 11) (ls' := [.ref 16, .int x1, .int x2, .int x3, .int x4, .int x5, .int x6, .int (-1)]) (st' := []) rfl rfl rfl ?_
    refine pm_R_lo pm_M156 (pc' := 12) rfl rfl rfl ?_
    refine pm_R_lo pm_M156 (pc' := 13) rfl rfl rfl ?_
    refine pm_R_cv pm_M156 (pc' := 16) (a := 16) (ra := [.int x1]) (rest := []) (ls' := [.ref 16, .int x1]) rfl rfl (Or.inl rfl) pm_M62 (hh 16 (Nat.le_of_ble_eq_true rfl)) rfl (Nat.le_of_ble_eq_true rfl) (Nat.le_of_ble_eq_true rfl) rfl rfl (Nat.le_of_ble_eq_true rfl) rfl rfl ?_
    refine pm_R_lo pm_M62 (pc' := 1) rfl rfl rfl ?_
    refine pm_R_ifc pm_M62 (t := 17) (pc' := 4) rfl rfl rfl (fun c_7 => ?_) (fun c_7 => ?_)
    · refine pm_R_op pm_M62 (pc' := 18) (st' := [.null]) rfl rfl rfl ?_
      refine pm_R_br pm_M62 (pc' := 30) rfl rfl ?_
      refine pm_R_ret pm_M62 (r := some (.null)) rfl rfl ?_
      show pm_R _ 156 16 [.ref 16, .int x1, .int x2, .int x3, .int x4, .int x5, .int x6, .int (-1)] [.null] _ _
      refine pm_R_br pm_M156 (pc' := 32) rfl rfl ?_
      refine pm_R_op pm_M156 (pc' := 33) (st' := [.int (-1)]) rfl rfl rfl ?_
      refine pm_R_ret pm_M156 (r := some (.int (-1))) rfl rfl ?_
      show pm_R _ 0 1936 [.ref 0, .ref 16, .ref 41, .int 0] [.int (-1)] _ _
      refine pm_R_lo pm_M0 (pc' := 1937) (pm_q0_24 (Nat.le_of_ble_eq_true rfl)) rfl rfl ?_
      refine pm_R_lo pm_M0 (pc' := 1938) (pm_q0_25 (Nat.le_of_ble_eq_true rfl)) rfl rfl ?_
      refine pm_R_lo pm_M0 (pc' := 1939) (pm_q0_25 (Nat.le_of_ble_eq_true rfl)) rfl rfl ?_
      refine pm_R_op pm_M0 (pc' := 1940) (st' := [.int 1, .int 0, .ref 0, .ref 41, .int (-1)]) (pm_q0_25 (Nat.le_of_ble_eq_true rfl)) rfl rfl ?_
      refine pm_R_op pm_M0 (pc' := 1941) (st' := [.int 1, .ref 0, .ref 41, .int (-1)]) (pm_q0_25 (Nat.le_of_ble_eq_true rfl)) rfl rfl ?_
      refine pm_R_iald pm_M0 (pc' := 1942) (v := x1) (pm_q0_25 (Nat.le_of_ble_eq_true rfl)) (hh 0 (Nat.le_of_ble_eq_true rfl)) (Nat.le_of_ble_eq_true rfl) rfl hx1 rfl ?_
      refine pm_R_lo pm_M0 (pc' := 1943) (pm_q0_25 (Nat.le_of_ble_eq_true rfl)) rfl rfl ?_
      refine pm_R_lo pm_M0 (pc' := 1944) (pm_q0_25 (Nat.le_of_ble_eq_true rfl)) rfl rfl ?_
      refine pm_R_op pm_M0 (pc' := 1945) (st' := [.int 2, .int 0, .ref 0, .int x1, .ref 41, .int (-1)]) (pm_q0_25 (Nat.le_of_ble_eq_true rfl)) rfl rfl ?_
      refine pm_R_op pm_M0 (pc' := 1946) (st' := [.int 2, .ref 0, .int x1, .ref 41, .int (-1)]) (pm_q0_25 (Nat.le_of_ble_eq_true rfl)) rfl rfl ?_
      refine pm_R_iald pm_M0 (pc' := 1947) (v := x2) (pm_q0_25 (Nat.le_of_ble_eq_true rfl)) (hh 0 (Nat.le_of_ble_eq_true rfl)) (Nat.le_of_ble_eq_true rfl) rfl hx2 rfl ?_
      refine pm_R_lo pm_M0 (pc' := 1948) (pm_q0_25 (Nat.le_of_ble_eq_true rfl)) rfl rfl ?_
      refine pm_R_lo pm_M0 (pc' := 1949) (pm_q0_25 (Nat.le_of_ble_eq_true rfl)) rfl rfl ?_
      refine pm_R_op pm_M0 (pc' := 1950) (st' := [.int 3, .int 0, .ref 0, .int x2, .int x1, .ref 41, .int (-1)]) (pm_q0_25 (Nat.le_of_ble_eq_true rfl)) rfl rfl ?_
      refine pm_R_op pm_M0 (pc' := 1951) (st' := [.int 3, .ref 0, .int x2, .int x1, .ref 41, .int (-1)]) (pm_q0_25 (Nat.le_of_ble_eq_true rfl)) rfl rfl ?_
      refine pm_R_iald pm_M0 (pc' := 1952) (v := x3) (pm_q0_25 (Nat.le_of_ble_eq_true rfl)) (hh 0 (Nat.le_of_ble_eq_true rfl)) (Nat.le_of_ble_eq_true rfl) rfl hx3 rfl ?_
      refine pm_R_lo pm_M0 (pc' := 1953) (pm_q0_25 (Nat.le_of_ble_eq_true rfl)) rfl rfl ?_
      refine pm_R_lo pm_M0 (pc' := 1954) (pm_q0_25 (Nat.le_of_ble_eq_true rfl)) rfl rfl ?_
      refine pm_R_op pm_M0 (pc' := 1955) (st' := [.int 4, .int 0, .ref 0, .int x3, .int x2, .int x1, .ref 41, .int (-1)]) (pm_q0_25 (Nat.le_of_ble_eq_true rfl)) rfl rfl ?_
      refine pm_R_op pm_M0 (pc' := 1956) (st' := [.int 4, .ref 0, .int x3, .int x2, .int x1, .ref 41, .int (-1)]) (pm_q0_25 (Nat.le_of_ble_eq_true rfl)) rfl rfl ?_
      refine pm_R_iald pm_M0 (pc' := 1957) (v := x4) (pm_q0_25 (Nat.le_of_ble_eq_true rfl)) (hh 0 (Nat.le_of_ble_eq_true rfl)) (Nat.le_of_ble_eq_true rfl) rfl hx4 rfl ?_
      refine pm_R_lo pm_M0 (pc' := 1958) (pm_q0_25 (Nat.le_of_ble_eq_true rfl)) rfl rfl ?_
      refine pm_R_lo pm_M0 (pc' := 1959) (pm_q0_25 (Nat.le_of_ble_eq_true rfl)) rfl rfl ?_
      refine pm_R_op pm_M0 (pc' := 1960) (st' := [.int 5, .int 0, .ref 0, .int x4, .int x3, .int x2, .int x1, .ref 41, .int (-1)]) (pm_q0_25 (Nat.le_of_ble_eq_true rfl)) rfl rfl ?_
      refine pm_R_op pm_M0 (pc' := 1961) (st' := [.int 5, .ref 0, .int x4, .int x3, .int x2, .int x1, .ref 41, .int (-1)]) (pm_q0_25 (Nat.le_of_ble_eq_true rfl)) rfl rfl ?_
      refine pm_R_iald pm_M0 (pc' := 1962) (v := x5) (pm_q0_25 (Nat.le_of_ble_eq_true rfl)) (hh 0 (Nat.le_of_ble_eq_true rfl)) (Nat.le_of_ble_eq_true rfl) rfl hx5 rfl ?_
      refine pm_R_lo pm_M0 (pc' := 1963) (pm_q0_25 (Nat.le_of_ble_eq_true rfl)) rfl rfl ?_
      refine pm_R_lo pm_M0 (pc' := 1964) (pm_q0_25 (Nat.le_of_ble_eq_true rfl)) rfl rfl ?_
      refine pm_R_op pm_M0 (pc' := 1966) (st' := [.int 6, .int 0, .ref 0, .int x5, .int x4, .int x3, .int x2, .int x1, .ref 41, .int (-1)]) (pm_q0_25 (Nat.le_of_ble_eq_true rfl)) rfl rfl ?_
      refine pm_R_op pm_M0 (pc' := 1967) (st' := [.int 6, .ref 0, .int x5, .int x4, .int x3, .int x2, .int x1, .ref 41, .int (-1)]) (pm_q0_25 (Nat.le_of_ble_eq_true rfl)) rfl rfl ?_
      refine pm_R_iald pm_M0 (pc' := 1968) (v := x6) (pm_q0_25 (Nat.le_of_ble_eq_true rfl)) (hh 0 (Nat.le_of_ble_eq_true rfl)) (Nat.le_of_ble_eq_true rfl) rfl hx6 rfl ?_
      refine pm_R_cv pm_M0 (pc' := 1971) (a := 41) (ra := [.int x6, .int x5, .int x4, .int x3, .int x2, .int x1]) (rest := [.int (-1)]) (ls' := [.ref 41, .int x1, .int x2, .int x3, .int x4, .int x5, .int x6, pm_no]) (pm_q0_25 (Nat.le_of_ble_eq_true rfl)) rfl (Or.inl rfl) pm_M290 (hh 41 (Nat.le_of_ble_eq_true rfl)) rfl (Nat.le_of_ble_eq_true rfl) (Nat.le_of_ble_eq_true rfl) rfl rfl (Nat.le_of_ble_eq_true rfl) rfl rfl ?_
      refine pm_R_lo pm_M290 (pc' := 1) rfl rfl rfl ?_
      refine pm_R_op pm_M290 (pc' := 2) (st' := [.int 0, .ref 41]) rfl rfl rfl ?_
      refine pm_R_put pm_M290 (pc' := 5) (fs' := [.int 0, .ref 42, .ref 43, .ref 44, .ref 45, .ref 46, .ref 47, .ref 48, .ref 49, .ref 50, .int 0, .int 0, .int 0, .int 0, .int 0, .long 0, .int 0, .int 0, .int 0, .ref 51, .ref 52, .int 0, .int 0, .int 0, .int 0, .ref 53, .int 0, .int 0, .ref 54, .ref 55, .ref 56, .int 0, .ref 57, .ref 58, .ref 59, .ref 60, .ref 61, .ref 62, .ref 63, .ref 64, .ref 65, .ref 66, .int 0, .int 0, .int 0, .ref 67, .ref 68, .int 0, .ref 69, .int 0, .int 0, .ref 70, .ref 71]) rfl rfl rfl (hh 41 (Nat.le_of_ble_eq_true rfl)) (Nat.le_of_ble_eq_true rfl) (Nat.le_of_ble_eq_true rfl) (Nat.le_of_ble_eq_true rfl) rfl (Or.inl rfl) rfl rfl ?_
      refine pm_R_lo pm_M290 (pc' := 6) rfl rfl rfl ?_
      refine pm_R_lo pm_M290 (pc' := 7) rfl rfl rfl ?_
      refine pm_R_lo pm_M290 (pc' := 9) rfl rfl rfl ?_
      refine pm_R_lo pm_M290 (pc' := 11) rfl rfl rfl ?_
      refine pm_R_cv pm_M290 (pc' := 14) (a := 41) (ra := [.int x5, .int x4, .int x3]) (rest := []) (ls' := [.ref 41, .int x3, .int x4, .int x5, pm_no, pm_no, pm_no, pm_no, pm_no]) rfl rfl (Or.inl rfl) pm_M266 rfl rfl (Nat.le_of_ble_eq_true rfl) (Nat.le_of_ble_eq_true rfl) rfl rfl (Nat.le_of_ble_eq_true rfl) rfl rfl ?_
      refine pm_R_lo pm_M266 (pc' := 1) rfl rfl rfl ?_
      refine pm_R_lo pm_M266 (pc' := 2) rfl rfl rfl ?_
      refine pm_R_cv pm_M266 (pc' := 5) (a := 41) (ra := [.int x3]) (rest := []) (ls' := [.ref 41, .int x3, pm_no, pm_no, pm_no, pm_no]) rfl rfl (Or.inl rfl) pm_M254 rfl rfl (Nat.le_of_ble_eq_true rfl) (Nat.le_of_ble_eq_true rfl) rfl rfl (Nat.le_of_ble_eq_true rfl) rfl rfl ?_
      refine pm_R_lo pm_M254 (pc' := 1) rfl rfl rfl ?_
      refine pm_R_op pm_M254 (pc' := 2) (st' := [.int 2, .ref 41]) rfl rfl rfl ?_
      refine pm_R_lo pm_M254 (pc' := 3) rfl rfl rfl ?_
      refine pm_R_cv pm_M254 (pc' := 6) (a := 41) (ra := [.int x3, .int 2]) (rest := []) (ls' := [.ref 41, .int 2, .int x3]) rfl rfl (Or.inl rfl) pm_M177 rfl rfl (Nat.le_of_ble_eq_true rfl) (Nat.le_of_ble_eq_true rfl) rfl rfl (Nat.le_of_ble_eq_true rfl) rfl rfl ?_
      refine pm_R_lo pm_M177 (pc' := 1) rfl rfl rfl ?_
      refine pm_R_op pm_M177 (pc' := 2) (st' := [.int 0, .int x3]) rfl rfl rfl ?_
      refine pm_R_lo pm_M177 (pc' := 3) rfl rfl rfl ?_
      refine pm_R_get pm_M177 (pc' := 6) (v := .ref 46) rfl rfl rfl (Nat.le_of_ble_eq_true rfl) (Nat.le_of_ble_eq_true rfl) rfl rfl ?_
      refine pm_R_lo pm_M177 (pc' := 7) rfl rfl rfl ?_
      refine pm_R_iald pm_M177 (pc' := 8) (v := 0) rfl (hh 46 (Nat.le_of_ble_eq_true rfl)) (Nat.le_of_ble_eq_true rfl) rfl rfl rfl ?_
      refine pm_R_op pm_M177 (pc' := 9) (st' := [.int 1, .int 0, .int 0, .int x3]) rfl rfl rfl ?_
      refine pm_R_op pm_M177 (pc' := 10) (st' := [.int (-1), .int 0, .int x3]) rfl rfl rfl ?_
      refine pm_R_cs pm_M177 (pc' := 13) (ra := [.int (-1), .int 0, .int x3]) (rest := []) (ls' := [.int x3, .int 0, .int (-1)]) rfl rfl (Or.inl rfl) pm_M174 rfl rfl (Nat.le_of_ble_eq_true rfl) rfl rfl ?_
      refine pm_R_lo pm_M174 (pc' := 1) rfl rfl rfl ?_
      refine pm_R_lo pm_M174 (pc' := 2) rfl rfl rfl ?_
      refine pm_R_icmp pm_M174 (t := 14) (pc' := 5) rfl rfl rfl (fun c_8 => by exact absurd c_8 c_1) (fun c_8 => ?_)
      refine pm_R_lo pm_M174 (pc' := 6) rfl rfl rfl ?_
      refine pm_R_lo pm_M174 (pc' := 7) rfl rfl rfl ?_
      refine pm_R_icmp pm_M174 (t := 14) (pc' := 10) rfl rfl rfl (fun c_9 => ?_) (fun c_9 => by have z0 : ((-1) : Int32).toInt = -1 := (by decide); have z1 : ((0) : Int32).toInt = 0 := (by decide); have q0 := (Int32.le_iff_toInt_le.mp (Int32.not_lt.mp c_1)); have q1 := (Int32.le_iff_toInt_le.mp (Int32.not_lt.mp c_9)); exfalso; omega)
      refine pm_R_op pm_M174 (pc' := 15) (st' := [.int 0]) rfl rfl rfl ?_
      refine pm_R_ret pm_M174 (r := some (.int 0)) rfl rfl ?_
      show pm_R _ 177 13 [.ref 41, .int 2, .int x3] [.int 0] _ _
      refine pm_R_ret pm_M177 (r := some (.int 0)) rfl rfl ?_
      show pm_R _ 254 6 [.ref 41, .int x3, pm_no, pm_no, pm_no, pm_no] [.int 0] _ _
      refine pm_R_br pm_M254 (pc' := 9) (st' := []) rfl rfl ?_
      refine pm_R_op pm_M254 (pc' := 10) (st' := [.int 0]) rfl rfl rfl ?_
      refine pm_R_ret pm_M254 (r := some (.int 0)) rfl rfl ?_
      show pm_R _ 266 5 [.ref 41, .int x3, .int x4, .int x5, pm_no, pm_no, pm_no, pm_no, pm_no] [.int 0] _ _
      refine pm_R_br pm_M266 (pc' := 29) (st' := []) rfl rfl ?_
      refine pm_R_op pm_M266 (pc' := 30) (st' := [.int (-1)]) rfl rfl rfl ?_
      refine pm_R_ret pm_M266 (r := some (.int (-1))) rfl rfl ?_
      show pm_R _ 290 14 [.ref 41, .int x1, .int x2, .int x3, .int x4, .int x5, .int x6, pm_no] [.int (-1)] _ _
      refine pm_R_lo pm_M290 (pc' := 16) (ls' := [.ref 41, .int x1, .int x2, .int x3, .int x4, .int x5, .int x6, .int (-1)]) (st' := []) rfl rfl rfl ?_
      refine pm_R_lo pm_M290 (pc' := 18) rfl rfl rfl ?_
      refine pm_R_op pm_M290 (pc' := 19) (st' := [.int (-1), .int (-1)]) rfl rfl rfl ?_
      refine pm_R_br pm_M290 (pc' := 41) (st' := []) rfl rfl ?_
      refine pm_R_op pm_M290 (pc' := 42) (st' := [.int (-1)]) rfl rfl rfl ?_
      refine pm_R_ret pm_M290 (r := some (.int (-1))) rfl rfl ?_
      show pm_R _ 0 1971 [.ref 0, .ref 16, .ref 41, .int 0] [.int (-1), .int (-1)] _ _
      refine pm_R_br pm_M0 (pc' := 2121) (st' := []) (pm_q0_25 (Nat.le_of_ble_eq_true rfl)) rfl ?_
      exact p1_tail (hh 0 (Nat.le_of_ble_eq_true rfl)) (Nat.le_of_ble_eq_true rfl) (Nat.le_of_ble_eq_true rfl) (Nat.le_of_ble_eq_true rfl)
    · refine pm_R_lo pm_M62 (pc' := 5) rfl rfl rfl ?_
      refine pm_R_lo pm_M62 (pc' := 6) rfl rfl rfl ?_
      refine pm_R_get pm_M62 (pc' := 9) (v := .ref 17) rfl rfl (hh 16 (Nat.le_of_ble_eq_true rfl)) (Nat.le_of_ble_eq_true rfl) (Nat.le_of_ble_eq_true rfl) rfl rfl ?_
      refine pm_R_get pm_M62 (pc' := 12) (v := .ref 23) rfl rfl (hh 17 (Nat.le_of_ble_eq_true rfl)) (Nat.le_of_ble_eq_true rfl) (Nat.le_of_ble_eq_true rfl) rfl rfl ?_
      refine pm_R_op pm_M62 (pc' := 13) (st' := [.int 0, .ref 23, .int x1]) rfl rfl rfl ?_
      refine pm_R_iald pm_M62 (pc' := 14) (v := 0) rfl (hh 23 (Nat.le_of_ble_eq_true rfl)) (Nat.le_of_ble_eq_true rfl) rfl rfl rfl ?_
      refine pm_R_icmp pm_M62 (t := 21) (pc' := 17) rfl rfl rfl (fun c_10 => by exact absurd c_10 c_7) (fun c_10 => ?_)
      refine pm_R_op pm_M62 (pc' := 18) (st' := [.null]) rfl rfl rfl ?_
      refine pm_R_br pm_M62 (pc' := 30) rfl rfl ?_
      refine pm_R_ret pm_M62 (r := some (.null)) rfl rfl ?_
      show pm_R _ 156 16 [.ref 16, .int x1, .int x2, .int x3, .int x4, .int x5, .int x6, .int (-1)] [.null] _ _
      refine pm_R_br pm_M156 (pc' := 32) rfl rfl ?_
      refine pm_R_op pm_M156 (pc' := 33) (st' := [.int (-1)]) rfl rfl rfl ?_
      refine pm_R_ret pm_M156 (r := some (.int (-1))) rfl rfl ?_
      show pm_R _ 0 1936 [.ref 0, .ref 16, .ref 41, .int 0] [.int (-1)] _ _
      refine pm_R_lo pm_M0 (pc' := 1937) (pm_q0_24 (Nat.le_of_ble_eq_true rfl)) rfl rfl ?_
      refine pm_R_lo pm_M0 (pc' := 1938) (pm_q0_25 (Nat.le_of_ble_eq_true rfl)) rfl rfl ?_
      refine pm_R_lo pm_M0 (pc' := 1939) (pm_q0_25 (Nat.le_of_ble_eq_true rfl)) rfl rfl ?_
      refine pm_R_op pm_M0 (pc' := 1940) (st' := [.int 1, .int 0, .ref 0, .ref 41, .int (-1)]) (pm_q0_25 (Nat.le_of_ble_eq_true rfl)) rfl rfl ?_
      refine pm_R_op pm_M0 (pc' := 1941) (st' := [.int 1, .ref 0, .ref 41, .int (-1)]) (pm_q0_25 (Nat.le_of_ble_eq_true rfl)) rfl rfl ?_
      refine pm_R_iald pm_M0 (pc' := 1942) (v := x1) (pm_q0_25 (Nat.le_of_ble_eq_true rfl)) (hh 0 (Nat.le_of_ble_eq_true rfl)) (Nat.le_of_ble_eq_true rfl) rfl hx1 rfl ?_
      refine pm_R_lo pm_M0 (pc' := 1943) (pm_q0_25 (Nat.le_of_ble_eq_true rfl)) rfl rfl ?_
      refine pm_R_lo pm_M0 (pc' := 1944) (pm_q0_25 (Nat.le_of_ble_eq_true rfl)) rfl rfl ?_
      refine pm_R_op pm_M0 (pc' := 1945) (st' := [.int 2, .int 0, .ref 0, .int x1, .ref 41, .int (-1)]) (pm_q0_25 (Nat.le_of_ble_eq_true rfl)) rfl rfl ?_
      refine pm_R_op pm_M0 (pc' := 1946) (st' := [.int 2, .ref 0, .int x1, .ref 41, .int (-1)]) (pm_q0_25 (Nat.le_of_ble_eq_true rfl)) rfl rfl ?_
      refine pm_R_iald pm_M0 (pc' := 1947) (v := x2) (pm_q0_25 (Nat.le_of_ble_eq_true rfl)) (hh 0 (Nat.le_of_ble_eq_true rfl)) (Nat.le_of_ble_eq_true rfl) rfl hx2 rfl ?_
      refine pm_R_lo pm_M0 (pc' := 1948) (pm_q0_25 (Nat.le_of_ble_eq_true rfl)) rfl rfl ?_
      refine pm_R_lo pm_M0 (pc' := 1949) (pm_q0_25 (Nat.le_of_ble_eq_true rfl)) rfl rfl ?_
      refine pm_R_op pm_M0 (pc' := 1950) (st' := [.int 3, .int 0, .ref 0, .int x2, .int x1, .ref 41, .int (-1)]) (pm_q0_25 (Nat.le_of_ble_eq_true rfl)) rfl rfl ?_
      refine pm_R_op pm_M0 (pc' := 1951) (st' := [.int 3, .ref 0, .int x2, .int x1, .ref 41, .int (-1)]) (pm_q0_25 (Nat.le_of_ble_eq_true rfl)) rfl rfl ?_
      refine pm_R_iald pm_M0 (pc' := 1952) (v := x3) (pm_q0_25 (Nat.le_of_ble_eq_true rfl)) (hh 0 (Nat.le_of_ble_eq_true rfl)) (Nat.le_of_ble_eq_true rfl) rfl hx3 rfl ?_
      refine pm_R_lo pm_M0 (pc' := 1953) (pm_q0_25 (Nat.le_of_ble_eq_true rfl)) rfl rfl ?_
      refine pm_R_lo pm_M0 (pc' := 1954) (pm_q0_25 (Nat.le_of_ble_eq_true rfl)) rfl rfl ?_
      refine pm_R_op pm_M0 (pc' := 1955) (st' := [.int 4, .int 0, .ref 0, .int x3, .int x2, .int x1, .ref 41, .int (-1)]) (pm_q0_25 (Nat.le_of_ble_eq_true rfl)) rfl rfl ?_
      refine pm_R_op pm_M0 (pc' := 1956) (st' := [.int 4, .ref 0, .int x3, .int x2, .int x1, .ref 41, .int (-1)]) (pm_q0_25 (Nat.le_of_ble_eq_true rfl)) rfl rfl ?_
      refine pm_R_iald pm_M0 (pc' := 1957) (v := x4) (pm_q0_25 (Nat.le_of_ble_eq_true rfl)) (hh 0 (Nat.le_of_ble_eq_true rfl)) (Nat.le_of_ble_eq_true rfl) rfl hx4 rfl ?_
      refine pm_R_lo pm_M0 (pc' := 1958) (pm_q0_25 (Nat.le_of_ble_eq_true rfl)) rfl rfl ?_
      refine pm_R_lo pm_M0 (pc' := 1959) (pm_q0_25 (Nat.le_of_ble_eq_true rfl)) rfl rfl ?_
      refine pm_R_op pm_M0 (pc' := 1960) (st' := [.int 5, .int 0, .ref 0, .int x4, .int x3, .int x2, .int x1, .ref 41, .int (-1)]) (pm_q0_25 (Nat.le_of_ble_eq_true rfl)) rfl rfl ?_
      refine pm_R_op pm_M0 (pc' := 1961) (st' := [.int 5, .ref 0, .int x4, .int x3, .int x2, .int x1, .ref 41, .int (-1)]) (pm_q0_25 (Nat.le_of_ble_eq_true rfl)) rfl rfl ?_
      refine pm_R_iald pm_M0 (pc' := 1962) (v := x5) (pm_q0_25 (Nat.le_of_ble_eq_true rfl)) (hh 0 (Nat.le_of_ble_eq_true rfl)) (Nat.le_of_ble_eq_true rfl) rfl hx5 rfl ?_
      refine pm_R_lo pm_M0 (pc' := 1963) (pm_q0_25 (Nat.le_of_ble_eq_true rfl)) rfl rfl ?_
      refine pm_R_lo pm_M0 (pc' := 1964) (pm_q0_25 (Nat.le_of_ble_eq_true rfl)) rfl rfl ?_
      refine pm_R_op pm_M0 (pc' := 1966) (st' := [.int 6, .int 0, .ref 0, .int x5, .int x4, .int x3, .int x2, .int x1, .ref 41, .int (-1)]) (pm_q0_25 (Nat.le_of_ble_eq_true rfl)) rfl rfl ?_
      refine pm_R_op pm_M0 (pc' := 1967) (st' := [.int 6, .ref 0, .int x5, .int x4, .int x3, .int x2, .int x1, .ref 41, .int (-1)]) (pm_q0_25 (Nat.le_of_ble_eq_true rfl)) rfl rfl ?_
      refine pm_R_iald pm_M0 (pc' := 1968) (v := x6) (pm_q0_25 (Nat.le_of_ble_eq_true rfl)) (hh 0 (Nat.le_of_ble_eq_true rfl)) (Nat.le_of_ble_eq_true rfl) rfl hx6 rfl ?_
      refine pm_R_cv pm_M0 (pc' := 1971) (a := 41) (ra := [.int x6, .int x5, .int x4, .int x3, .int x2, .int x1]) (rest := [.int (-1)]) (ls' := [.ref 41, .int x1, .int x2, .int x3, .int x4, .int x5, .int x6, pm_no]) (pm_q0_25 (Nat.le_of_ble_eq_true rfl)) rfl (Or.inl rfl) pm_M290 (hh 41 (Nat.le_of_ble_eq_true rfl)) rfl (Nat.le_of_ble_eq_true rfl) (Nat.le_of_ble_eq_true rfl) rfl rfl (Nat.le_of_ble_eq_true rfl) rfl rfl ?_
      refine pm_R_lo pm_M290 (pc' := 1) rfl rfl rfl ?_
      refine pm_R_op pm_M290 (pc' := 2) (st' := [.int 0, .ref 41]) rfl rfl rfl ?_
      refine pm_R_put pm_M290 (pc' := 5) (fs' := [.int 0, .ref 42, .ref 43, .ref 44, .ref 45, .ref 46, .ref 47, .ref 48, .ref 49, .ref 50, .int 0, .int 0, .int 0, .int 0, .int 0, .long 0, .int 0, .int 0, .int 0, .ref 51, .ref 52, .int 0, .int 0, .int 0, .int 0, .ref 53, .int 0, .int 0, .ref 54, .ref 55, .ref 56, .int 0, .ref 57, .ref 58, .ref 59, .ref 60, .ref 61, .ref 62, .ref 63, .ref 64, .ref 65, .ref 66, .int 0, .int 0, .int 0, .ref 67, .ref 68, .int 0, .ref 69, .int 0, .int 0, .ref 70, .ref 71]) rfl rfl rfl (hh 41 (Nat.le_of_ble_eq_true rfl)) (Nat.le_of_ble_eq_true rfl) (Nat.le_of_ble_eq_true rfl) (Nat.le_of_ble_eq_true rfl) rfl (Or.inl rfl) rfl rfl ?_
      refine pm_R_lo pm_M290 (pc' := 6) rfl rfl rfl ?_
      refine pm_R_lo pm_M290 (pc' := 7) rfl rfl rfl ?_
      refine pm_R_lo pm_M290 (pc' := 9) rfl rfl rfl ?_
      refine pm_R_lo pm_M290 (pc' := 11) rfl rfl rfl ?_
      refine pm_R_cv pm_M290 (pc' := 14) (a := 41) (ra := [.int x5, .int x4, .int x3]) (rest := []) (ls' := [.ref 41, .int x3, .int x4, .int x5, pm_no, pm_no, pm_no, pm_no, pm_no]) rfl rfl (Or.inl rfl) pm_M266 rfl rfl (Nat.le_of_ble_eq_true rfl) (Nat.le_of_ble_eq_true rfl) rfl rfl (Nat.le_of_ble_eq_true rfl) rfl rfl ?_
      refine pm_R_lo pm_M266 (pc' := 1) rfl rfl rfl ?_
      refine pm_R_lo pm_M266 (pc' := 2) rfl rfl rfl ?_
      refine pm_R_cv pm_M266 (pc' := 5) (a := 41) (ra := [.int x3]) (rest := []) (ls' := [.ref 41, .int x3, pm_no, pm_no, pm_no, pm_no]) rfl rfl (Or.inl rfl) pm_M254 rfl rfl (Nat.le_of_ble_eq_true rfl) (Nat.le_of_ble_eq_true rfl) rfl rfl (Nat.le_of_ble_eq_true rfl) rfl rfl ?_
      refine pm_R_lo pm_M254 (pc' := 1) rfl rfl rfl ?_
      refine pm_R_op pm_M254 (pc' := 2) (st' := [.int 2, .ref 41]) rfl rfl rfl ?_
      refine pm_R_lo pm_M254 (pc' := 3) rfl rfl rfl ?_
      refine pm_R_cv pm_M254 (pc' := 6) (a := 41) (ra := [.int x3, .int 2]) (rest := []) (ls' := [.ref 41, .int 2, .int x3]) rfl rfl (Or.inl rfl) pm_M177 rfl rfl (Nat.le_of_ble_eq_true rfl) (Nat.le_of_ble_eq_true rfl) rfl rfl (Nat.le_of_ble_eq_true rfl) rfl rfl ?_
      refine pm_R_lo pm_M177 (pc' := 1) rfl rfl rfl ?_
      refine pm_R_op pm_M177 (pc' := 2) (st' := [.int 0, .int x3]) rfl rfl rfl ?_
      refine pm_R_lo pm_M177 (pc' := 3) rfl rfl rfl ?_
      refine pm_R_get pm_M177 (pc' := 6) (v := .ref 46) rfl rfl rfl (Nat.le_of_ble_eq_true rfl) (Nat.le_of_ble_eq_true rfl) rfl rfl ?_
      refine pm_R_lo pm_M177 (pc' := 7) rfl rfl rfl ?_
      refine pm_R_iald pm_M177 (pc' := 8) (v := 0) rfl (hh 46 (Nat.le_of_ble_eq_true rfl)) (Nat.le_of_ble_eq_true rfl) rfl rfl rfl ?_
      refine pm_R_op pm_M177 (pc' := 9) (st' := [.int 1, .int 0, .int 0, .int x3]) rfl rfl rfl ?_
      refine pm_R_op pm_M177 (pc' := 10) (st' := [.int (-1), .int 0, .int x3]) rfl rfl rfl ?_
      refine pm_R_cs pm_M177 (pc' := 13) (ra := [.int (-1), .int 0, .int x3]) (rest := []) (ls' := [.int x3, .int 0, .int (-1)]) rfl rfl (Or.inl rfl) pm_M174 rfl rfl (Nat.le_of_ble_eq_true rfl) rfl rfl ?_
      refine pm_R_lo pm_M174 (pc' := 1) rfl rfl rfl ?_
      refine pm_R_lo pm_M174 (pc' := 2) rfl rfl rfl ?_
      refine pm_R_icmp pm_M174 (t := 14) (pc' := 5) rfl rfl rfl (fun c_11 => by exact absurd c_11 c_1) (fun c_11 => ?_)
      refine pm_R_lo pm_M174 (pc' := 6) rfl rfl rfl ?_
      refine pm_R_lo pm_M174 (pc' := 7) rfl rfl rfl ?_
      refine pm_R_icmp pm_M174 (t := 14) (pc' := 10) rfl rfl rfl (fun c_12 => ?_) (fun c_12 => by have z0 : ((-1) : Int32).toInt = -1 := (by decide); have z1 : ((0) : Int32).toInt = 0 := (by decide); have q0 := (Int32.le_iff_toInt_le.mp (Int32.not_lt.mp c_1)); have q1 := (Int32.le_iff_toInt_le.mp (Int32.not_lt.mp c_12)); exfalso; omega)
      refine pm_R_op pm_M174 (pc' := 15) (st' := [.int 0]) rfl rfl rfl ?_
      refine pm_R_ret pm_M174 (r := some (.int 0)) rfl rfl ?_
      show pm_R _ 177 13 [.ref 41, .int 2, .int x3] [.int 0] _ _
      refine pm_R_ret pm_M177 (r := some (.int 0)) rfl rfl ?_
      show pm_R _ 254 6 [.ref 41, .int x3, pm_no, pm_no, pm_no, pm_no] [.int 0] _ _
      refine pm_R_br pm_M254 (pc' := 9) (st' := []) rfl rfl ?_
      refine pm_R_op pm_M254 (pc' := 10) (st' := [.int 0]) rfl rfl rfl ?_
      refine pm_R_ret pm_M254 (r := some (.int 0)) rfl rfl ?_
      show pm_R _ 266 5 [.ref 41, .int x3, .int x4, .int x5, pm_no, pm_no, pm_no, pm_no, pm_no] [.int 0] _ _
      refine pm_R_br pm_M266 (pc' := 29) (st' := []) rfl rfl ?_
      refine pm_R_op pm_M266 (pc' := 30) (st' := [.int (-1)]) rfl rfl rfl ?_
      refine pm_R_ret pm_M266 (r := some (.int (-1))) rfl rfl ?_
      show pm_R _ 290 14 [.ref 41, .int x1, .int x2, .int x3, .int x4, .int x5, .int x6, pm_no] [.int (-1)] _ _
      refine pm_R_lo pm_M290 (pc' := 16) (ls' := [.ref 41, .int x1, .int x2, .int x3, .int x4, .int x5, .int x6, .int (-1)]) (st' := []) rfl rfl rfl ?_
      refine pm_R_lo pm_M290 (pc' := 18) rfl rfl rfl ?_
      refine pm_R_op pm_M290 (pc' := 19) (st' := [.int (-1), .int (-1)]) rfl rfl rfl ?_
      refine pm_R_br pm_M290 (pc' := 41) (st' := []) rfl rfl ?_
      refine pm_R_op pm_M290 (pc' := 42) (st' := [.int (-1)]) rfl rfl rfl ?_
      refine pm_R_ret pm_M290 (r := some (.int (-1))) rfl rfl ?_
      show pm_R _ 0 1971 [.ref 0, .ref 16, .ref 41, .int 0] [.int (-1), .int (-1)] _ _
      refine pm_R_br pm_M0 (pc' := 2121) (st' := []) (pm_q0_25 (Nat.le_of_ble_eq_true rfl)) rfl ?_
      exact p1_tail (hh 0 (Nat.le_of_ble_eq_true rfl)) (Nat.le_of_ble_eq_true rfl) (Nat.le_of_ble_eq_true rfl) (Nat.le_of_ble_eq_true rfl)
set_option maxRecDepth 100000 in
set_option maxHeartbeats 40000000 in
theorem p1_c38 (xs : Nat → Int32) (f : Nat → pm_E) (hh : ∀ i, i < 72 → f i = pm_fF 7 xs i) (x0 x1 x2 x3 x4 x5 x6 : Int32) (hx0 : xs 0 = x0) (hx1 : xs 1 = x1) (hx2 : xs 2 = x2) (hx3 : xs 3 = x3) (hx4 : xs 4 = x4) (hx5 : xs 5 = x5) (hx6 : xs 6 = x6) : pm_R 100 0 1976 [.ref 0, .ref 16, .ref 41, .int 0] [] (72, 52657, f) p1_Q := by
  refine pm_R_lo pm_M0 (pc' := 1977) (pm_q0_25 (Nat.le_of_ble_eq_true rfl)) rfl rfl ?_
  refine pm_R_lo pm_M0 (pc' := 1978) (pm_q0_25 (Nat.le_of_ble_eq_true rfl)) rfl rfl ?_
  refine pm_R_lo pm_M0 (pc' := 1979) (pm_q0_25 (Nat.le_of_ble_eq_true rfl)) rfl rfl ?_
  refine pm_R_op pm_M0 (pc' := 1980) (st' := [.int 1, .int 0, .ref 0, .ref 16]) (pm_q0_25 (Nat.le_of_ble_eq_true rfl)) rfl rfl ?_
  refine pm_R_op pm_M0 (pc' := 1981) (st' := [.int 1, .ref 0, .ref 16]) (pm_q0_25 (Nat.le_of_ble_eq_true rfl)) rfl rfl ?_
  refine pm_R_iald pm_M0 (pc' := 1982) (v := x1) (pm_q0_25 (Nat.le_of_ble_eq_true rfl)) (hh 0 (Nat.le_of_ble_eq_true rfl)) (Nat.le_of_ble_eq_true rfl) rfl hx1 rfl ?_
  refine pm_R_lo pm_M0 (pc' := 1983) (pm_q0_25 (Nat.le_of_ble_eq_true rfl)) rfl rfl ?_
  refine pm_R_lo pm_M0 (pc' := 1984) (pm_q0_25 (Nat.le_of_ble_eq_true rfl)) rfl rfl ?_
  refine pm_R_op pm_M0 (pc' := 1985) (st' := [.int 2, .int 0, .ref 0, .int x1, .ref 16]) (pm_q0_25 (Nat.le_of_ble_eq_true rfl)) rfl rfl ?_
  refine pm_R_op pm_M0 (pc' := 1986) (st' := [.int 2, .ref 0, .int x1, .ref 16]) (pm_q0_25 (Nat.le_of_ble_eq_true rfl)) rfl rfl ?_
  refine pm_R_iald pm_M0 (pc' := 1987) (v := x2) (pm_q0_25 (Nat.le_of_ble_eq_true rfl)) (hh 0 (Nat.le_of_ble_eq_true rfl)) (Nat.le_of_ble_eq_true rfl) rfl hx2 rfl ?_
  refine pm_R_cv pm_M0 (pc' := 1990) (a := 16) (ra := [.int x2, .int x1]) (rest := []) (ls' := [.ref 16, .int x1, .int x2, pm_no]) (pm_q0_25 (Nat.le_of_ble_eq_true rfl)) rfl (Or.inl rfl) pm_M158 (hh 16 (Nat.le_of_ble_eq_true rfl)) rfl (Nat.le_of_ble_eq_true rfl) (Nat.le_of_ble_eq_true rfl) rfl rfl (Nat.le_of_ble_eq_true rfl) rfl rfl ?_
  refine pm_R_lo pm_M158 (pc' := 1) rfl rfl rfl ?_
  refine pm_R_lo pm_M158 (pc' := 2) rfl rfl rfl ?_
  refine pm_R_cv pm_M158 (pc' := 5) (a := 16) (ra := [.int x1]) (rest := []) (ls' := [.ref 16, .int x1]) rfl rfl (Or.inl rfl) pm_M139 (hh 16 (Nat.le_of_ble_eq_true rfl)) rfl (Nat.le_of_ble_eq_true rfl) (Nat.le_of_ble_eq_true rfl) rfl rfl (Nat.le_of_ble_eq_true rfl) rfl rfl ?_
  refine pm_R_lo pm_M139 (pc' := 1) rfl rfl rfl ?_
  refine pm_R_ifc pm_M139 (t := 17) (pc' := 4) rfl rfl rfl (fun c_1 => ?_) (fun c_1 => ?_)
  · refine pm_R_op pm_M139 (pc' := 18) (st' := [.null]) rfl rfl rfl ?_
    refine pm_R_br pm_M139 (pc' := 30) rfl rfl ?_
    refine pm_R_ret pm_M139 (r := some (.null)) rfl rfl ?_
    show pm_R _ 158 5 [.ref 16, .int x1, .int x2, pm_no] [.null] _ _
    refine pm_R_lo pm_M158 (pc' := 6) (ls' := [.ref 16, .int x1, .int x2, .null]) (st' := []) rfl rfl rfl ?_
    refine pm_R_lo pm_M158 (pc' := 7) rfl rfl rfl ?_
    refine pm_R_br pm_M158 (pc' := 10) rfl rfl ?_
    refine pm_R_op pm_M158 (pc' := 12) (st' := [.int (-2)]) rfl rfl rfl ?_
    refine pm_R_ret pm_M158 (r := some (.int (-2))) rfl rfl ?_
    show pm_R _ 0 1990 [.ref 0, .ref 16, .ref 41, .int 0] [.int (-2)] _ _
    refine pm_R_lo pm_M0 (pc' := 1991) (pm_q0_25 (Nat.le_of_ble_eq_true rfl)) rfl rfl ?_
    refine pm_R_lo pm_M0 (pc' := 1992) (pm_q0_25 (Nat.le_of_ble_eq_true rfl)) rfl rfl ?_
    refine pm_R_lo pm_M0 (pc' := 1993) (pm_q0_25 (Nat.le_of_ble_eq_true rfl)) rfl rfl ?_
    refine pm_R_op pm_M0 (pc' := 1994) (st' := [.int 1, .int 0, .ref 0, .ref 41, .int (-2)]) (pm_q0_25 (Nat.le_of_ble_eq_true rfl)) rfl rfl ?_
    refine pm_R_op pm_M0 (pc' := 1995) (st' := [.int 1, .ref 0, .ref 41, .int (-2)]) (pm_q0_25 (Nat.le_of_ble_eq_true rfl)) rfl rfl ?_
    refine pm_R_iald pm_M0 (pc' := 1996) (v := x1) (pm_q0_25 (Nat.le_of_ble_eq_true rfl)) (hh 0 (Nat.le_of_ble_eq_true rfl)) (Nat.le_of_ble_eq_true rfl) rfl hx1 rfl ?_
    refine pm_R_lo pm_M0 (pc' := 1997) (pm_q0_25 (Nat.le_of_ble_eq_true rfl)) rfl rfl ?_
    refine pm_R_lo pm_M0 (pc' := 1998) (pm_q0_25 (Nat.le_of_ble_eq_true rfl)) rfl rfl ?_
    refine pm_R_op pm_M0 (pc' := 1999) (st' := [.int 2, .int 0, .ref 0, .int x1, .ref 41, .int (-2)]) (pm_q0_25 (Nat.le_of_ble_eq_true rfl)) rfl rfl ?_
    refine pm_R_op pm_M0 (pc' := 2000) (st' := [.int 2, .ref 0, .int x1, .ref 41, .int (-2)]) (pm_q0_25 (Nat.le_of_ble_eq_true rfl)) rfl rfl ?_
    refine pm_R_iald pm_M0 (pc' := 2001) (v := x2) (pm_q0_25 (Nat.le_of_ble_eq_true rfl)) (hh 0 (Nat.le_of_ble_eq_true rfl)) (Nat.le_of_ble_eq_true rfl) rfl hx2 rfl ?_
    refine pm_R_cv pm_M0 (pc' := 2004) (a := 41) (ra := [.int x2, .int x1]) (rest := [.int (-2)]) (ls' := [.ref 41, .int x1, .int x2, pm_no, pm_no, pm_no]) (pm_q0_25 (Nat.le_of_ble_eq_true rfl)) rfl (Or.inl rfl) pm_M291 (hh 41 (Nat.le_of_ble_eq_true rfl)) rfl (Nat.le_of_ble_eq_true rfl) (Nat.le_of_ble_eq_true rfl) rfl rfl (Nat.le_of_ble_eq_true rfl) rfl rfl ?_
    refine pm_R_lo pm_M291 (pc' := 1) rfl rfl rfl ?_
    refine pm_R_op pm_M291 (pc' := 2) (st' := [.int 0, .ref 41]) rfl rfl rfl ?_
    refine pm_R_put pm_M291 (pc' := 5) (fs' := [.int 0, .ref 42, .ref 43, .ref 44, .ref 45, .ref 46, .ref 47, .ref 48, .ref 49, .ref 50, .int 0, .int 0, .int 0, .int 0, .int 0, .long 0, .int 0, .int 0, .int 0, .ref 51, .ref 52, .int 0, .int 0, .int 0, .int 0, .ref 53, .int 0, .int 0, .ref 54, .ref 55, .ref 56, .int 0, .ref 57, .ref 58, .ref 59, .ref 60, .ref 61, .ref 62, .ref 63, .ref 64, .ref 65, .ref 66, .int 0, .int 0, .int 0, .ref 67, .ref 68, .int 0, .ref 69, .int 0, .int 0, .ref 70, .ref 71]) rfl rfl rfl (hh 41 (Nat.le_of_ble_eq_true rfl)) (Nat.le_of_ble_eq_true rfl) (Nat.le_of_ble_eq_true rfl) (Nat.le_of_ble_eq_true rfl) rfl (Or.inl rfl) rfl rfl ?_
    refine pm_R_lo pm_M291 (pc' := 6) rfl rfl rfl ?_
    refine pm_R_lo pm_M291 (pc' := 7) rfl rfl rfl ?_
    refine pm_R_cv pm_M291 (pc' := 10) (a := 41) (ra := [.int x1]) (rest := []) (ls' := [.ref 41, .int x1, pm_no, pm_no, pm_no, pm_no]) rfl rfl (Or.inl rfl) pm_M254 rfl rfl (Nat.le_of_ble_eq_true rfl) (Nat.le_of_ble_eq_true rfl) rfl rfl (Nat.le_of_ble_eq_true rfl) rfl rfl ?_
    refine pm_R_lo pm_M254 (pc' := 1) rfl rfl rfl ?_
    refine pm_R_op pm_M254 (pc' := 2) (st' := [.int 2, .ref 41]) rfl rfl rfl ?_
    refine pm_R_lo pm_M254 (pc' := 3) rfl rfl rfl ?_
    refine pm_R_cv pm_M254 (pc' := 6) (a := 41) (ra := [.int x1, .int 2]) (rest := []) (ls' := [.ref 41, .int 2, .int x1]) rfl rfl (Or.inl rfl) pm_M177 rfl rfl (Nat.le_of_ble_eq_true rfl) (Nat.le_of_ble_eq_true rfl) rfl rfl (Nat.le_of_ble_eq_true rfl) rfl rfl ?_
    refine pm_R_lo pm_M177 (pc' := 1) rfl rfl rfl ?_
    refine pm_R_op pm_M177 (pc' := 2) (st' := [.int 0, .int x1]) rfl rfl rfl ?_
    refine pm_R_lo pm_M177 (pc' := 3) rfl rfl rfl ?_
    refine pm_R_get pm_M177 (pc' := 6) (v := .ref 46) rfl rfl rfl (Nat.le_of_ble_eq_true rfl) (Nat.le_of_ble_eq_true rfl) rfl rfl ?_
    refine pm_R_lo pm_M177 (pc' := 7) rfl rfl rfl ?_
    refine pm_R_iald pm_M177 (pc' := 8) (v := 0) rfl (hh 46 (Nat.le_of_ble_eq_true rfl)) (Nat.le_of_ble_eq_true rfl) rfl rfl rfl ?_
    refine pm_R_op pm_M177 (pc' := 9) (st' := [.int 1, .int 0, .int 0, .int x1]) rfl rfl rfl ?_
    refine pm_R_op pm_M177 (pc' := 10) (st' := [.int (-1), .int 0, .int x1]) rfl rfl rfl ?_
    refine pm_R_cs pm_M177 (pc' := 13) (ra := [.int (-1), .int 0, .int x1]) (rest := []) (ls' := [.int x1, .int 0, .int (-1)]) rfl rfl (Or.inl rfl) pm_M174 rfl rfl (Nat.le_of_ble_eq_true rfl) rfl rfl ?_
    refine pm_R_lo pm_M174 (pc' := 1) rfl rfl rfl ?_
    refine pm_R_lo pm_M174 (pc' := 2) rfl rfl rfl ?_
    refine pm_R_icmp pm_M174 (t := 14) (pc' := 5) rfl rfl rfl (fun c_2 => ?_) (fun c_2 => by exact absurd c_1 c_2)
    refine pm_R_op pm_M174 (pc' := 15) (st' := [.int 0]) rfl rfl rfl ?_
    refine pm_R_ret pm_M174 (r := some (.int 0)) rfl rfl ?_
    show pm_R _ 177 13 [.ref 41, .int 2, .int x1] [.int 0] _ _
    refine pm_R_ret pm_M177 (r := some (.int 0)) rfl rfl ?_
    show pm_R _ 254 6 [.ref 41, .int x1, pm_no, pm_no, pm_no, pm_no] [.int 0] _ _
    refine pm_R_br pm_M254 (pc' := 9) (st' := []) rfl rfl ?_
    refine pm_R_op pm_M254 (pc' := 10) (st' := [.int 0]) rfl rfl rfl ?_
    refine pm_R_ret pm_M254 (r := some (.int 0)) rfl rfl ?_
    show pm_R _ 291 10 [.ref 41, .int x1, .int x2, pm_no, pm_no, pm_no] [.int 0] _ _
    refine pm_R_br pm_M291 (pc' := 13) (st' := []) rfl rfl ?_
    refine pm_R_op pm_M291 (pc' := 15) (st' := [.int (-2)]) rfl rfl rfl ?_
    refine pm_R_ret pm_M291 (r := some (.int (-2))) rfl rfl ?_
    show pm_R _ 0 2004 [.ref 0, .ref 16, .ref 41, .int 0] [.int (-2), .int (-2)] _ _
    refine pm_R_br pm_M0 (pc' := 2121) (st' := []) (pm_q0_25 (Nat.le_of_ble_eq_true rfl)) rfl ?_
    exact p1_tail (hh 0 (Nat.le_of_ble_eq_true rfl)) (Nat.le_of_ble_eq_true rfl) (Nat.le_of_ble_eq_true rfl) (Nat.le_of_ble_eq_true rfl)
  · refine pm_R_lo pm_M139 (pc' := 5) rfl rfl rfl ?_
    refine pm_R_lo pm_M139 (pc' := 6) rfl rfl rfl ?_
    refine pm_R_get pm_M139 (pc' := 9) (v := .ref 17) rfl rfl (hh 16 (Nat.le_of_ble_eq_true rfl)) (Nat.le_of_ble_eq_true rfl) (Nat.le_of_ble_eq_true rfl) rfl rfl ?_
    refine pm_R_get pm_M139 (pc' := 12) (v := .ref 23) rfl rfl (hh 17 (Nat.le_of_ble_eq_true rfl)) (Nat.le_of_ble_eq_true rfl) (Nat.le_of_ble_eq_true rfl) rfl rfl ?_
    refine pm_R_op pm_M139 (pc' := 13) (st' := [.int 2, .ref 23, .int x1]) rfl rfl rfl ?_
    refine pm_R_iald pm_M139 (pc' := 14) (v := 0) rfl (hh 23 (Nat.le_of_ble_eq_true rfl)) (Nat.le_of_ble_eq_true rfl) rfl rfl rfl ?_
    refine pm_R_icmp pm_M139 (t := 21) (pc' := 17) rfl rfl rfl (fun c_3 => by exact absurd c_3 c_1) (fun c_3 => ?_)
    refine pm_R_op pm_M139 (pc' := 18) (st' := [.null]) rfl rfl rfl ?_
    refine pm_R_br pm_M139 (pc' := 30) rfl rfl ?_
    refine pm_R_ret pm_M139 (r := some (.null)) rfl rfl ?_
    show pm_R _ 158 5 [.ref 16, .int x1, .int x2, pm_no] [.null] _ _
    refine pm_R_lo pm_M158 (pc' := 6) (ls' := [.ref 16, .int x1, .int x2, .null]) (st' := []) rfl rfl rfl ?_
    refine pm_R_lo pm_M158 (pc' := 7) rfl rfl rfl ?_
    refine pm_R_br pm_M158 (pc' := 10) rfl rfl ?_
    refine pm_R_op pm_M158 (pc' := 12) (st' := [.int (-2)]) rfl rfl rfl ?_
    refine pm_R_ret pm_M158 (r := some (.int (-2))) rfl rfl ?_
    show pm_R _ 0 1990 [.ref 0, .ref 16, .ref 41, .int 0] [.int (-2)] _ _
    refine pm_R_lo pm_M0 (pc' := 1991) (pm_q0_25 (Nat.le_of_ble_eq_true rfl)) rfl rfl ?_
    refine pm_R_lo pm_M0 (pc' := 1992) (pm_q0_25 (Nat.le_of_ble_eq_true rfl)) rfl rfl ?_
    refine pm_R_lo pm_M0 (pc' := 1993) (pm_q0_25 (Nat.le_of_ble_eq_true rfl)) rfl rfl ?_
    refine pm_R_op pm_M0 (pc' := 1994) (st' := [.int 1, .int 0, .ref 0, .ref 41, .int (-2)]) (pm_q0_25 (Nat.le_of_ble_eq_true rfl)) rfl rfl ?_
    refine pm_R_op pm_M0 (pc' := 1995) (st' := [.int 1, .ref 0, .ref 41, .int (-2)]) (pm_q0_25 (Nat.le_of_ble_eq_true rfl)) rfl rfl ?_
    refine pm_R_iald pm_M0 (pc' := 1996) (v := x1) (pm_q0_25 (Nat.le_of_ble_eq_true rfl)) (hh 0 (Nat.le_of_ble_eq_true rfl)) (Nat.le_of_ble_eq_true rfl) rfl hx1 rfl ?_
    refine pm_R_lo pm_M0 (pc' := 1997) (pm_q0_25 (Nat.le_of_ble_eq_true rfl)) rfl rfl ?_
    refine pm_R_lo pm_M0 (pc' := 1998) (pm_q0_25 (Nat.le_of_ble_eq_true rfl)) rfl rfl ?_
    refine pm_R_op pm_M0 (pc' := 1999) (st' := [.int 2, .int 0, .ref 0, .int x1, .ref 41, .int (-2)]) (pm_q0_25 (Nat.le_of_ble_eq_true rfl)) rfl rfl ?_
    refine pm_R_op pm_M0 (pc' := 2000) (st' := [.int 2, .ref 0, .int x1, .ref 41, .int (-2)]) (pm_q0_25 (Nat.le_of_ble_eq_true rfl)) rfl rfl ?_
    refine pm_R_iald pm_M0 (pc' := 2001) (v := x2) (pm_q0_25 (Nat.le_of_ble_eq_true rfl)) (hh 0 (Nat.le_of_ble_eq_true rfl)) (Nat.le_of_ble_eq_true rfl) rfl hx2 rfl ?_
    refine pm_R_cv pm_M0 (pc' := 2004) (a := 41) (ra := [.int x2, .int x1]) (rest := [.int (-2)]) (ls' := [.ref 41, .int x1, .int x2, pm_no, pm_no, pm_no]) (pm_q0_25 (Nat.le_of_ble_eq_true rfl)) rfl (Or.inl rfl) pm_M291 (hh 41 (Nat.le_of_ble_eq_true rfl)) rfl (Nat.le_of_ble_eq_true rfl) (Nat.le_of_ble_eq_true rfl) rfl rfl (Nat.le_of_ble_eq_true rfl) rfl rfl ?_
    refine pm_R_lo pm_M291 (pc' := 1) rfl rfl rfl ?_
    refine pm_R_op pm_M291 (pc' := 2) (st' := [.int 0, .ref 41]) rfl rfl rfl ?_
    refine pm_R_put pm_M291 (pc' := 5) (fs' := [.int 0, .ref 42, .ref 43, .ref 44, .ref 45, .ref 46, .ref 47, .ref 48, .ref 49, .ref 50, .int 0, .int 0, .int 0, .int 0, .int 0, .long 0, .int 0, .int 0, .int 0, .ref 51, .ref 52, .int 0, .int 0, .int 0, .int 0, .ref 53, .int 0, .int 0, .ref 54, .ref 55, .ref 56, .int 0, .ref 57, .ref 58, .ref 59, .ref 60, .ref 61, .ref 62, .ref 63, .ref 64, .ref 65, .ref 66, .int 0, .int 0, .int 0, .ref 67, .ref 68, .int 0, .ref 69, .int 0, .int 0, .ref 70, .ref 71]) rfl rfl rfl (hh 41 (Nat.le_of_ble_eq_true rfl)) (Nat.le_of_ble_eq_true rfl) (Nat.le_of_ble_eq_true rfl) (Nat.le_of_ble_eq_true rfl) rfl (Or.inl rfl) rfl rfl ?_
    refine pm_R_lo pm_M291 (pc' := 6) rfl rfl rfl ?_
    refine pm_R_lo pm_M291 (pc' := 7) rfl rfl rfl ?_
    refine pm_R_cv pm_M291 (pc' := 10) (a := 41) (ra := [.int x1]) (rest := []) (ls' := [.ref 41, .int x1, pm_no, pm_no, pm_no, pm_no]) rfl rfl (Or.inl rfl) pm_M254 rfl rfl (Nat.le_of_ble_eq_true rfl) (Nat.le_of_ble_eq_true rfl) rfl rfl (Nat.le_of_ble_eq_true rfl) rfl rfl ?_
    refine pm_R_lo pm_M254 (pc' := 1) rfl rfl rfl ?_
    refine pm_R_op pm_M254 (pc' := 2) (st' := [.int 2, .ref 41]) rfl rfl rfl ?_
    refine pm_R_lo pm_M254 (pc' := 3) rfl rfl rfl ?_
    refine pm_R_cv pm_M254 (pc' := 6) (a := 41) (ra := [.int x1, .int 2]) (rest := []) (ls' := [.ref 41, .int 2, .int x1]) rfl rfl (Or.inl rfl) pm_M177 rfl rfl (Nat.le_of_ble_eq_true rfl) (Nat.le_of_ble_eq_true rfl) rfl rfl (Nat.le_of_ble_eq_true rfl) rfl rfl ?_
    refine pm_R_lo pm_M177 (pc' := 1) rfl rfl rfl ?_
    refine pm_R_op pm_M177 (pc' := 2) (st' := [.int 0, .int x1]) rfl rfl rfl ?_
    refine pm_R_lo pm_M177 (pc' := 3) rfl rfl rfl ?_
    refine pm_R_get pm_M177 (pc' := 6) (v := .ref 46) rfl rfl rfl (Nat.le_of_ble_eq_true rfl) (Nat.le_of_ble_eq_true rfl) rfl rfl ?_
    refine pm_R_lo pm_M177 (pc' := 7) rfl rfl rfl ?_
    refine pm_R_iald pm_M177 (pc' := 8) (v := 0) rfl (hh 46 (Nat.le_of_ble_eq_true rfl)) (Nat.le_of_ble_eq_true rfl) rfl rfl rfl ?_
    refine pm_R_op pm_M177 (pc' := 9) (st' := [.int 1, .int 0, .int 0, .int x1]) rfl rfl rfl ?_
    refine pm_R_op pm_M177 (pc' := 10) (st' := [.int (-1), .int 0, .int x1]) rfl rfl rfl ?_
    refine pm_R_cs pm_M177 (pc' := 13) (ra := [.int (-1), .int 0, .int x1]) (rest := []) (ls' := [.int x1, .int 0, .int (-1)]) rfl rfl (Or.inl rfl) pm_M174 rfl rfl (Nat.le_of_ble_eq_true rfl) rfl rfl ?_
    refine pm_R_lo pm_M174 (pc' := 1) rfl rfl rfl ?_
    refine pm_R_lo pm_M174 (pc' := 2) rfl rfl rfl ?_
    refine pm_R_icmp pm_M174 (t := 14) (pc' := 5) rfl rfl rfl (fun c_4 => by exact absurd c_4 c_1) (fun c_4 => ?_)
    refine pm_R_lo pm_M174 (pc' := 6) rfl rfl rfl ?_
    refine pm_R_lo pm_M174 (pc' := 7) rfl rfl rfl ?_
    refine pm_R_icmp pm_M174 (t := 14) (pc' := 10) rfl rfl rfl (fun c_5 => ?_) (fun c_5 => by have z0 : ((-1) : Int32).toInt = -1 := (by decide); have z1 : ((0) : Int32).toInt = 0 := (by decide); have q0 := (Int32.le_iff_toInt_le.mp (Int32.not_lt.mp c_1)); have q1 := (Int32.le_iff_toInt_le.mp (Int32.not_lt.mp c_5)); exfalso; omega)
    refine pm_R_op pm_M174 (pc' := 15) (st' := [.int 0]) rfl rfl rfl ?_
    refine pm_R_ret pm_M174 (r := some (.int 0)) rfl rfl ?_
    show pm_R _ 177 13 [.ref 41, .int 2, .int x1] [.int 0] _ _
    refine pm_R_ret pm_M177 (r := some (.int 0)) rfl rfl ?_
    show pm_R _ 254 6 [.ref 41, .int x1, pm_no, pm_no, pm_no, pm_no] [.int 0] _ _
    refine pm_R_br pm_M254 (pc' := 9) (st' := []) rfl rfl ?_
    refine pm_R_op pm_M254 (pc' := 10) (st' := [.int 0]) rfl rfl rfl ?_
    refine pm_R_ret pm_M254 (r := some (.int 0)) rfl rfl ?_
    show pm_R _ 291 10 [.ref 41, .int x1, .int x2, pm_no, pm_no, pm_no] [.int 0] _ _
    refine pm_R_br pm_M291 (pc' := 13) (st' := []) rfl rfl ?_
    refine pm_R_op pm_M291 (pc' := 15) (st' := [.int (-2)]) rfl rfl rfl ?_
    refine pm_R_ret pm_M291 (r := some (.int (-2))) rfl rfl ?_
    show pm_R _ 0 2004 [.ref 0, .ref 16, .ref 41, .int 0] [.int (-2), .int (-2)] _ _
    refine pm_R_br pm_M0 (pc' := 2121) (st' := []) (pm_q0_25 (Nat.le_of_ble_eq_true rfl)) rfl ?_
    exact p1_tail (hh 0 (Nat.le_of_ble_eq_true rfl)) (Nat.le_of_ble_eq_true rfl) (Nat.le_of_ble_eq_true rfl) (Nat.le_of_ble_eq_true rfl)
set_option maxRecDepth 100000 in
set_option maxHeartbeats 40000000 in
theorem p1_c39 (xs : Nat → Int32) (f : Nat → pm_E) (hh : ∀ i, i < 72 → f i = pm_fF 7 xs i) (x0 x1 x2 x3 x4 x5 x6 : Int32) (hx0 : xs 0 = x0) (hx1 : xs 1 = x1) (hx2 : xs 2 = x2) (hx3 : xs 3 = x3) (hx4 : xs 4 = x4) (hx5 : xs 5 = x5) (hx6 : xs 6 = x6) : pm_R 100 0 2009 [.ref 0, .ref 16, .ref 41, .int 0] [] (72, 52657, f) p1_Q := by
  refine pm_R_lo pm_M0 (pc' := 2010) (pm_q0_26 (Nat.le_of_ble_eq_true rfl)) rfl rfl ?_
  refine pm_R_lo pm_M0 (pc' := 2011) (pm_q0_26 (Nat.le_of_ble_eq_true rfl)) rfl rfl ?_
  refine pm_R_lo pm_M0 (pc' := 2012) (pm_q0_26 (Nat.le_of_ble_eq_true rfl)) rfl rfl ?_
  refine pm_R_op pm_M0 (pc' := 2013) (st' := [.int 1, .int 0, .ref 0, .ref 16]) (pm_q0_26 (Nat.le_of_ble_eq_true rfl)) rfl rfl ?_
  refine pm_R_op pm_M0 (pc' := 2014) (st' := [.int 1, .ref 0, .ref 16]) (pm_q0_26 (Nat.le_of_ble_eq_true rfl)) rfl rfl ?_
  refine pm_R_iald pm_M0 (pc' := 2015) (v := x1) (pm_q0_26 (Nat.le_of_ble_eq_true rfl)) (hh 0 (Nat.le_of_ble_eq_true rfl)) (Nat.le_of_ble_eq_true rfl) rfl hx1 rfl ?_
  refine pm_R_lo pm_M0 (pc' := 2016) (pm_q0_26 (Nat.le_of_ble_eq_true rfl)) rfl rfl ?_
  refine pm_R_lo pm_M0 (pc' := 2017) (pm_q0_26 (Nat.le_of_ble_eq_true rfl)) rfl rfl ?_
  refine pm_R_op pm_M0 (pc' := 2018) (st' := [.int 2, .int 0, .ref 0, .int x1, .ref 16]) (pm_q0_26 (Nat.le_of_ble_eq_true rfl)) rfl rfl ?_
  refine pm_R_op pm_M0 (pc' := 2019) (st' := [.int 2, .ref 0, .int x1, .ref 16]) (pm_q0_26 (Nat.le_of_ble_eq_true rfl)) rfl rfl ?_
  refine pm_R_iald pm_M0 (pc' := 2020) (v := x2) (pm_q0_26 (Nat.le_of_ble_eq_true rfl)) (hh 0 (Nat.le_of_ble_eq_true rfl)) (Nat.le_of_ble_eq_true rfl) rfl hx2 rfl ?_
  refine pm_R_lo pm_M0 (pc' := 2021) (pm_q0_26 (Nat.le_of_ble_eq_true rfl)) rfl rfl ?_
  refine pm_R_lo pm_M0 (pc' := 2022) (pm_q0_26 (Nat.le_of_ble_eq_true rfl)) rfl rfl ?_
  refine pm_R_op pm_M0 (pc' := 2023) (st' := [.int 3, .int 0, .ref 0, .int x2, .int x1, .ref 16]) (pm_q0_26 (Nat.le_of_ble_eq_true rfl)) rfl rfl ?_
  refine pm_R_op pm_M0 (pc' := 2024) (st' := [.int 3, .ref 0, .int x2, .int x1, .ref 16]) (pm_q0_26 (Nat.le_of_ble_eq_true rfl)) rfl rfl ?_
  refine pm_R_iald pm_M0 (pc' := 2025) (v := x3) (pm_q0_26 (Nat.le_of_ble_eq_true rfl)) (hh 0 (Nat.le_of_ble_eq_true rfl)) (Nat.le_of_ble_eq_true rfl) rfl hx3 rfl ?_
  refine pm_R_cv pm_M0 (pc' := 2028) (a := 16) (ra := [.int x3, .int x2, .int x1]) (rest := []) (ls' := [.ref 16, .int x1, .int x2, .int x3, pm_no, pm_no, pm_no]) (pm_q0_26 (Nat.le_of_ble_eq_true rfl)) rfl (Or.inl rfl) pm_M111 (hh 16 (Nat.le_of_ble_eq_true rfl)) rfl (Nat.le_of_ble_eq_true rfl) (Nat.le_of_ble_eq_true rfl) rfl rfl (Nat.le_of_ble_eq_true rfl) rfl rfl ?_
  refine pm_R_lo pm_M111 (pc' := 1) rfl rfl rfl ?_
  refine pm_R_lo pm_M111 (pc' := 2) rfl rfl rfl ?_
  refine pm_R_cv pm_M111 (pc' := 5) (a := 16) (ra := [.int x1]) (rest := []) (ls' := [.ref 16, .int x1]) rfl rfl (Or.inl rfl) pm_M62 (hh 16 (Nat.le_of_ble_eq_true rfl)) rfl (Nat.le_of_ble_eq_true rfl) (Nat.le_of_ble_eq_true rfl) rfl rfl (Nat.le_of_ble_eq_true rfl) rfl rfl ?_
  refine pm_R_lo pm_M62 (pc' := 1) rfl rfl rfl ?_
  refine pm_R_ifc pm_M62 (t := 17) (pc' := 4) rfl rfl rfl (fun c_1 => ?_) (fun c_1 => ?_)
  · refine pm_R_op pm_M62 (pc' := 18) (st' := [.null]) rfl rfl rfl ?_
    refine pm_R_br pm_M62 (pc' := 30) rfl rfl ?_
    refine pm_R_ret pm_M62 (r := some (.null)) rfl rfl ?_
    show pm_R _ 111 5 [.ref 16, .int x1, .int x2, .int x3, pm_no, pm_no, pm_no] [.null] _ _
    refine pm_R_lo pm_M111 (pc' := 7) (ls' := [.ref 16, .int x1, .int x2, .int x3, .null, pm_no, pm_no]) (st' := []) rfl rfl rfl ?_
    refine pm_R_lo pm_M111 (pc' := 8) rfl rfl rfl ?_
    refine pm_R_lo pm_M111 (pc' := 9) rfl rfl rfl ?_
    refine pm_R_cv pm_M111 (pc' := 12) (a := 16) (ra := [.int x2]) (rest := []) (ls' := [.ref 16, .int x2]) rfl rfl (Or.inl rfl) pm_M66 (hh 16 (Nat.le_of_ble_eq_true rfl)) rfl (Nat.le_of_ble_eq_true rfl) (Nat.le_of_ble_eq_true rfl) rfl rfl (Nat.le_of_ble_eq_true rfl) rfl rfl ?_
    refine pm_R_lo pm_M66 (pc' := 1) rfl rfl rfl ?_
    refine pm_R_ifc pm_M66 (t := 17) (pc' := 4) rfl rfl rfl (fun c_2 => ?_) (fun c_2 => ?_)
    · refine pm_R_op pm_M66 (pc' := 18) (st' := [.null]) rfl rfl rfl ?_
      refine pm_R_br pm_M66 (pc' := 30) rfl rfl ?_
      refine pm_R_ret pm_M66 (r := some (.null)) rfl rfl ?_
      show pm_R _ 111 12 [.ref 16, .int x1, .int x2, .int x3, .null, pm_no, pm_no] [.null] _ _
      refine pm_R_lo pm_M111 (pc' := 14) (ls' := [.ref 16, .int x1, .int x2, .int x3, .null, .null, pm_no]) (st' := []) rfl rfl rfl ?_
      refine pm_R_lo pm_M111 (pc' := 15) rfl rfl rfl ?_
      refine pm_R_lo pm_M111 (pc' := 16) rfl rfl rfl ?_
      refine pm_R_cv pm_M111 (pc' := 19) (a := 16) (ra := [.int x3]) (rest := []) (ls' := [.ref 16, .int x3]) rfl rfl (Or.inl rfl) pm_M66 (hh 16 (Nat.le_of_ble_eq_true rfl)) rfl (Nat.le_of_ble_eq_true rfl) (Nat.le_of_ble_eq_true rfl) rfl rfl (Nat.le_of_ble_eq_true rfl) rfl rfl ?_
      refine pm_R_lo pm_M66 (pc' := 1) rfl rfl rfl ?_
      refine pm_R_ifc pm_M66 (t := 17) (pc' := 4) rfl rfl rfl (fun c_3 => ?_) (fun c_3 => ?_)
      · refine pm_R_op pm_M66 (pc' := 18) (st' := [.null]) rfl rfl rfl ?_
        refine pm_R_br pm_M66 (pc' := 30) rfl rfl ?_
        refine pm_R_ret pm_M66 (r := some (.null)) rfl rfl ?_
        show pm_R _ 111 19 [.ref 16, .int x1, .int x2, .int x3, .null, .null, pm_no] [.null] _ _
        refine pm_R_lo pm_M111 (pc' := 21) (ls' := [.ref 16, .int x1, .int x2, .int x3, .null, .null, .null]) (st' := []) rfl rfl rfl ?_
        refine pm_R_lo pm_M111 (pc' := 23) rfl rfl rfl ?_
        refine pm_R_br pm_M111 (pc' := 36) rfl rfl ?_
        refine pm_R_op pm_M111 (pc' := 37) (st' := [.int (-1)]) rfl rfl rfl ?_
        refine pm_R_ret pm_M111 (r := some (.int (-1))) rfl rfl ?_
        show pm_R _ 0 2028 [.ref 0, .ref 16, .ref 41, .int 0] [.int (-1)] _ _
        refine pm_R_lo pm_M0 (pc' := 2029) (pm_q0_26 (Nat.le_of_ble_eq_true rfl)) rfl rfl ?_
        refine pm_R_lo pm_M0 (pc' := 2030) (pm_q0_26 (Nat.le_of_ble_eq_true rfl)) rfl rfl ?_
        refine pm_R_lo pm_M0 (pc' := 2031) (pm_q0_26 (Nat.le_of_ble_eq_true rfl)) rfl rfl ?_
        refine pm_R_op pm_M0 (pc' := 2032) (st' := [.int 1, .int 0, .ref 0, .ref 41, .int (-1)]) (pm_q0_26 (Nat.le_of_ble_eq_true rfl)) rfl rfl ?_
        refine pm_R_op pm_M0 (pc' := 2033) (st' := [.int 1, .ref 0, .ref 41, .int (-1)]) (pm_q0_26 (Nat.le_of_ble_eq_true rfl)) rfl rfl ?_
        refine pm_R_iald pm_M0 (pc' := 2034) (v := x1) (pm_q0_26 (Nat.le_of_ble_eq_true rfl)) (hh 0 (Nat.le_of_ble_eq_true rfl)) (Nat.le_of_ble_eq_true rfl) rfl hx1 rfl ?_
        refine pm_R_lo pm_M0 (pc' := 2035) (pm_q0_26 (Nat.le_of_ble_eq_true rfl)) rfl rfl ?_
        refine pm_R_lo pm_M0 (pc' := 2036) (pm_q0_26 (Nat.le_of_ble_eq_true rfl)) rfl rfl ?_
        refine pm_R_op pm_M0 (pc' := 2037) (st' := [.int 2, .int 0, .ref 0, .int x1, .ref 41, .int (-1)]) (pm_q0_26 (Nat.le_of_ble_eq_true rfl)) rfl rfl ?_
        refine pm_R_op pm_M0 (pc' := 2038) (st' := [.int 2, .ref 0, .int x1, .ref 41, .int (-1)]) (pm_q0_26 (Nat.le_of_ble_eq_true rfl)) rfl rfl ?_
        refine pm_R_iald pm_M0 (pc' := 2039) (v := x2) (pm_q0_26 (Nat.le_of_ble_eq_true rfl)) (hh 0 (Nat.le_of_ble_eq_true rfl)) (Nat.le_of_ble_eq_true rfl) rfl hx2 rfl ?_
        refine pm_R_lo pm_M0 (pc' := 2040) (pm_q0_26 (Nat.le_of_ble_eq_true rfl)) rfl rfl ?_
        refine pm_R_lo pm_M0 (pc' := 2041) (pm_q0_26 (Nat.le_of_ble_eq_true rfl)) rfl rfl ?_
        refine pm_R_op pm_M0 (pc' := 2042) (st' := [.int 3, .int 0, .ref 0, .int x2, .int x1, .ref 41, .int (-1)]) (pm_q0_26 (Nat.le_of_ble_eq_true rfl)) rfl rfl ?_
        refine pm_R_op pm_M0 (pc' := 2043) (st' := [.int 3, .ref 0, .int x2, .int x1, .ref 41, .int (-1)]) (pm_q0_26 (Nat.le_of_ble_eq_true rfl)) rfl rfl ?_
        refine pm_R_iald pm_M0 (pc' := 2044) (v := x3) (pm_q0_26 (Nat.le_of_ble_eq_true rfl)) (hh 0 (Nat.le_of_ble_eq_true rfl)) (Nat.le_of_ble_eq_true rfl) rfl hx3 rfl ?_
        refine pm_R_cv pm_M0 (pc' := 2047) (a := 41) (ra := [.int x3, .int x2, .int x1]) (rest := [.int (-1)]) (ls' := [.ref 41, .int x1, .int x2, .int x3, pm_no, pm_no]) (pm_q0_26 (Nat.le_of_ble_eq_true rfl)) rfl (Or.inl rfl) pm_M293 (hh 41 (Nat.le_of_ble_eq_true rfl)) rfl (Nat.le_of_ble_eq_true rfl) (Nat.le_of_ble_eq_true rfl) rfl rfl (Nat.le_of_ble_eq_true rfl) rfl rfl ?_
        refine pm_R_lo pm_M293 (pc' := 1) rfl rfl rfl ?_
        refine pm_R_op pm_M293 (pc' := 2) (st' := [.int 0, .ref 41]) rfl rfl rfl ?_
        refine pm_R_put pm_M293 (pc' := 5) (fs' := [.int 0, .ref 42, .ref 43, .ref 44, .ref 45, .ref 46, .ref 47, .ref 48, .ref 49, .ref 50, .int 0, .int 0, .int 0, .int 0, .int 0, .long 0, .int 0, .int 0, .int 0, .ref 51, .ref 52, .int 0, .int 0, .int 0, .int 0, .ref 53, .int 0, .int 0, .ref 54, .ref 55, .ref 56, .int 0, .ref 57, .ref 58, .ref 59, .ref 60, .ref 61, .ref 62, .ref 63, .ref 64, .ref 65, .ref 66, .int 0, .int 0, .int 0, .ref 67, .ref 68, .int 0, .ref 69, .int 0, .int 0, .ref 70, .ref 71]) rfl rfl rfl (hh 41 (Nat.le_of_ble_eq_true rfl)) (Nat.le_of_ble_eq_true rfl) (Nat.le_of_ble_eq_true rfl) (Nat.le_of_ble_eq_true rfl) rfl (Or.inl rfl) rfl rfl ?_
        refine pm_R_lo pm_M293 (pc' := 6) rfl rfl rfl ?_
        refine pm_R_lo pm_M293 (pc' := 7) rfl rfl rfl ?_
        refine pm_R_lo pm_M293 (pc' := 8) rfl rfl rfl ?_
        refine pm_R_cv pm_M293 (pc' := 11) (a := 41) (ra := [.int x2, .int x1]) (rest := []) (ls' := [.ref 41, .int x1, .int x2]) rfl rfl (Or.inl rfl) pm_M200 rfl rfl (Nat.le_of_ble_eq_true rfl) (Nat.le_of_ble_eq_true rfl) rfl rfl (Nat.le_of_ble_eq_true rfl) rfl rfl ?_
        refine pm_R_lo pm_M200 (pc' := 1) rfl rfl rfl ?_
        refine pm_R_op pm_M200 (pc' := 2) (st' := [.int 0, .ref 41]) rfl rfl rfl ?_
        refine pm_R_lo pm_M200 (pc' := 3) rfl rfl rfl ?_
        refine pm_R_cv pm_M200 (pc' := 6) (a := 41) (ra := [.int x1, .int 0]) (rest := []) (ls' := [.ref 41, .int 0, .int x1]) rfl rfl (Or.inl rfl) pm_M177 rfl rfl (Nat.le_of_ble_eq_true rfl) (Nat.le_of_ble_eq_true rfl) rfl rfl (Nat.le_of_ble_eq_true rfl) rfl rfl ?_
        refine pm_R_lo pm_M177 (pc' := 1) rfl rfl rfl ?_
        refine pm_R_op pm_M177 (pc' := 2) (st' := [.int 0, .int x1]) rfl rfl rfl ?_
        refine pm_R_lo pm_M177 (pc' := 3) rfl rfl rfl ?_
        refine pm_R_get pm_M177 (pc' := 6) (v := .ref 46) rfl rfl rfl (Nat.le_of_ble_eq_true rfl) (Nat.le_of_ble_eq_true rfl) rfl rfl ?_
        refine pm_R_lo pm_M177 (pc' := 7) rfl rfl rfl ?_
        refine pm_R_iald pm_M177 (pc' := 8) (v := 0) rfl (hh 46 (Nat.le_of_ble_eq_true rfl)) (Nat.le_of_ble_eq_true rfl) rfl rfl rfl ?_
        refine pm_R_op pm_M177 (pc' := 9) (st' := [.int 1, .int 0, .int 0, .int x1]) rfl rfl rfl ?_
        refine pm_R_op pm_M177 (pc' := 10) (st' := [.int (-1), .int 0, .int x1]) rfl rfl rfl ?_
        refine pm_R_cs pm_M177 (pc' := 13) (ra := [.int (-1), .int 0, .int x1]) (rest := []) (ls' := [.int x1, .int 0, .int (-1)]) rfl rfl (Or.inl rfl) pm_M174 rfl rfl (Nat.le_of_ble_eq_true rfl) rfl rfl ?_
        refine pm_R_lo pm_M174 (pc' := 1) rfl rfl rfl ?_
        refine pm_R_lo pm_M174 (pc' := 2) rfl rfl rfl ?_
        refine pm_R_icmp pm_M174 (t := 14) (pc' := 5) rfl rfl rfl (fun c_4 => ?_) (fun c_4 => by exact absurd c_1 c_4)
        refine pm_R_op pm_M174 (pc' := 15) (st' := [.int 0]) rfl rfl rfl ?_
        refine pm_R_ret pm_M174 (r := some (.int 0)) rfl rfl ?_
        show pm_R _ 177 13 [.ref 41, .int 0, .int x1] [.int 0] _ _
        refine pm_R_ret pm_M177 (r := some (.int 0)) rfl rfl ?_
        show pm_R _ 200 6 [.ref 41, .int x1, .int x2] [.int 0] _ _
        refine pm_R_br pm_M200 (pc' := 18) (st' := []) rfl rfl ?_
        refine pm_R_op pm_M200 (pc' := 19) (st' := [.int 0]) rfl rfl rfl ?_
        refine pm_R_ret pm_M200 (r := some (.int 0)) rfl rfl ?_
        show pm_R _ 293 11 [.ref 41, .int x1, .int x2, .int x3, pm_no, pm_no] [.int 0] _ _
        refine pm_R_br pm_M293 (pc' := 23) (st' := []) rfl rfl ?_
        refine pm_R_op pm_M293 (pc' := 24) (st' := [.int (-1)]) rfl rfl rfl ?_
        refine pm_R_ret pm_M293 (r := some (.int (-1))) rfl rfl ?_
        show pm_R _ 0 2047 [.ref 0, .ref 16, .ref 41, .int 0] [.int (-1), .int (-1)] _ _
        refine pm_R_br pm_M0 (pc' := 2121) (st' := []) (pm_q0_26 (Nat.le_of_ble_eq_true rfl)) rfl ?_
        exact p1_tail (hh 0 (Nat.le_of_ble_eq_true rfl)) (Nat.le_of_ble_eq_true rfl) (Nat.le_of_ble_eq_true rfl) (Nat.le_of_ble_eq_true rfl)
      · refine pm_R_lo pm_M66 (pc' := 5) rfl rfl rfl ?_
        refine pm_R_lo pm_M66 (pc' := 6) rfl rfl rfl ?_
        refine pm_R_get pm_M66 (pc' := 9) (v := .ref 17) rfl rfl (hh 16 (Nat.le_of_ble_eq_true rfl)) (Nat.le_of_ble_eq_true rfl) (Nat.le_of_ble_eq_true rfl) rfl rfl ?_
        refine pm_R_get pm_M66 (pc' := 12) (v := .ref 23) rfl rfl (hh 17 (Nat.le_of_ble_eq_true rfl)) (Nat.le_of_ble_eq_true rfl) (Nat.le_of_ble_eq_true rfl) rfl rfl ?_
        refine pm_R_op pm_M66 (pc' := 13) (st' := [.int 1, .ref 23, .int x3]) rfl rfl rfl ?_
        refine pm_R_iald pm_M66 (pc' := 14) (v := 0) rfl (hh 23 (Nat.le_of_ble_eq_true rfl)) (Nat.le_of_ble_eq_true rfl) rfl rfl rfl ?_
        refine pm_R_icmp pm_M66 (t := 21) (pc' := 17) rfl rfl rfl (fun c_5 => by exact absurd c_5 c_3) (fun c_5 => ?_)
        refine pm_R_op pm_M66 (pc' := 18) (st' := [.null]) rfl rfl rfl ?_
        refine pm_R_br pm_M66 (pc' := 30) rfl rfl ?_
        refine pm_R_ret pm_M66 (r := some (.null)) rfl rfl ?_
        show pm_R _ 111 19 [.ref 16, .int x1, .int x2, .int x3, .null, .null, pm_no] [.null] _ _
        refine pm_R_lo pm_M111 (pc' := 21) (ls' := [.ref 16, .int x1, .int x2, .int x3, .null, .null, .null]) (st' := []) rfl rfl rfl ?_
        refine pm_R_lo pm_M111 (pc' := 23) rfl rfl rfl ?_
        refine pm_R_br pm_M111 (pc' := 36) rfl rfl ?_
        refine pm_R_op pm_M111 (pc' := 37) (st' := [.int (-1)]) rfl rfl rfl ?_
        refine pm_R_ret pm_M111 (r := some (.int (-1))) rfl rfl ?_
        show pm_R _ 0 2028 [.ref 0, .ref 16, .ref 41, .int 0] [.int (-1)] _ _
        refine pm_R_lo pm_M0 (pc' := 2029) (pm_q0_26 (Nat.le_of_ble_eq_true rfl)) rfl rfl ?_
        refine pm_R_lo pm_M0 (pc' := 2030) (pm_q0_26 (Nat.le_of_ble_eq_true rfl)) rfl rfl ?_
        refine pm_R_lo pm_M0 (pc' := 2031) (pm_q0_26 (Nat.le_of_ble_eq_true rfl)) rfl rfl ?_
        refine pm_R_op pm_M0 (pc' := 2032) (st' := [.int 1, .int 0, .ref 0, .ref 41, .int (-1)]) (pm_q0_26 (Nat.le_of_ble_eq_true rfl)) rfl rfl ?_
        refine pm_R_op pm_M0 (pc' := 2033) (st' := [.int 1, .ref 0, .ref 41, .int (-1)]) (pm_q0_26 (Nat.le_of_ble_eq_true rfl)) rfl rfl ?_
        refine pm_R_iald pm_M0 (pc' := 2034) (v := x1) (pm_q0_26 (Nat.le_of_ble_eq_true rfl)) (hh 0 (Nat.le_of_ble_eq_true rfl)) (Nat.le_of_ble_eq_true rfl) rfl hx1 rfl ?_
        refine pm_R_lo pm_M0 (pc' := 2035) (pm_q0_26 (Nat.le_of_ble_eq_true rfl)) rfl rfl ?_
        refine pm_R_lo pm_M0 (pc' := 2036) (pm_q0_26 (Nat.le_of_ble_eq_true rfl)) rfl rfl ?_
        refine pm_R_op pm_M0 (pc' := 2037) (st' := [.int 2, .int 0, .ref 0, .int x1, .ref 41, .int (-1)]) (pm_q0_26 (Nat.le_of_ble_eq_true rfl)) rfl rfl ?_
        refine pm_R_op pm_M0 (pc' := 2038) (st' := [.int 2, .ref 0, .int x1, .ref 41, .int (-1)]) (pm_q0_26 (Nat.le_of_ble_eq_true rfl)) rfl rfl ?_
        refine pm_R_iald pm_M0 (pc' := 2039) (v := x2) (pm_q0_26 (Nat.le_of_ble_eq_true rfl)) (hh 0 (Nat.le_of_ble_eq_true rfl)) (Nat.le_of_ble_eq_true rfl) rfl hx2 rfl ?_
        refine pm_R_lo pm_M0 (pc' := 2040) (pm_q0_26 (Nat.le_of_ble_eq_true rfl)) rfl rfl ?_
        refine pm_R_lo pm_M0 (pc' := 2041) (pm_q0_26 (Nat.le_of_ble_eq_true rfl)) rfl rfl ?_
        refine pm_R_op pm_M0 (pc' := 2042) (st' := [.int 3, .int 0, .ref 0, .int x2, .int x1, .ref 41, .int (-1)]) (pm_q0_26 (Nat.le_of_ble_eq_true rfl)) rfl rfl ?_
        refine pm_R_op pm_M0 (pc' := 2043) (st' := [.int 3, .ref 0, .int x2, .int x1, .ref 41, .int (-1)]) (pm_q0_26 (Nat.le_of_ble_eq_true rfl)) rfl rfl ?_
        refine pm_R_iald pm_M0 (pc' := 2044) (v := x3) (pm_q0_26 (Nat.le_of_ble_eq_true rfl)) (hh 0 (Nat.le_of_ble_eq_true rfl)) (Nat.le_of_ble_eq_true rfl) rfl hx3 rfl ?_
        refine pm_R_cv pm_M0 (pc' := 2047) (a := 41) (ra := [.int x3, .int x2, .int x1]) (rest := [.int (-1)]) (ls' := [.ref 41, .int x1, .int x2, .int x3, pm_no, pm_no]) (pm_q0_26 (Nat.le_of_ble_eq_true rfl)) rfl (Or.inl rfl) pm_M293 (hh 41 (Nat.le_of_ble_eq_true rfl)) rfl (Nat.le_of_ble_eq_true rfl) (Nat.le_of_ble_eq_true rfl) rfl rfl (Nat.le_of_ble_eq_true rfl) rfl rfl ?_
        refine pm_R_lo pm_M293 (pc' := 1) rfl rfl rfl ?_
        refine pm_R_op pm_M293 (pc' := 2) (st' := [.int 0, .ref 41]) rfl rfl rfl ?_
        refine pm_R_put pm_M293 (pc' := 5) (fs' := [.int 0, .ref 42, .ref 43, .ref 44, .ref 45, .ref 46, .ref 47, .ref 48, .ref 49, .ref 50, .int 0, .int 0, .int 0, .int 0, .int 0, .long 0, .int 0, .int 0, .int 0, .ref 51, .ref 52, .int 0, .int 0, .int 0, .int 0, .ref 53, .int 0, .int 0, .ref 54, .ref 55, .ref 56, .int 0, .ref 57, .ref 58, .ref 59, .ref 60, .ref 61, .ref 62, .ref 63, .ref 64, .ref 65, .ref 66, .int 0, .int 0, .int 0, .ref 67, .ref 68, .int 0, .ref 69, .int 0, .int 0, .ref 70, .ref 71]) rfl rfl rfl (hh 41 (Nat.le_of_ble_eq_true rfl)) (Nat.le_of_ble_eq_true rfl) (Nat.le_of_ble_eq_true rfl) (Nat.le_of_ble_eq_true rfl) rfl (Or.inl rfl) rfl rfl ?_
        refine pm_R_lo pm_M293 (pc' := 6) rfl rfl rfl ?_
        refine pm_R_lo pm_M293 (pc' := 7) rfl rfl rfl ?_
        refine pm_R_lo pm_M293 (pc' := 8) rfl rfl rfl ?_
        refine pm_R_cv pm_M293 (pc' := 11) (a := 41) (ra := [.int x2, .int x1]) (rest := []) (ls' := [.ref 41, .int x1, .int x2]) rfl rfl (Or.inl rfl) pm_M200 rfl rfl (Nat.le_of_ble_eq_true rfl) (Nat.le_of_ble_eq_true rfl) rfl rfl (Nat.le_of_ble_eq_true rfl) rfl rfl ?_
        refine pm_R_lo pm_M200 (pc' := 1) rfl rfl rfl ?_
        refine pm_R_op pm_M200 (pc' := 2) (st' := [.int 0, .ref 41]) rfl rfl rfl ?_
        refine pm_R_lo pm_M200 (pc' := 3) rfl rfl rfl ?_
        refine pm_R_cv pm_M200 (pc' := 6) (a := 41) (ra := [.int x1, .int 0]) (rest := []) (ls' := [.ref 41, .int 0, .int x1]) rfl rfl (Or.inl rfl) pm_M177 rfl rfl (Nat.le_of_ble_eq_true rfl) (Nat.le_of_ble_eq_true rfl) rfl rfl (Nat.le_of_ble_eq_true rfl) rfl rfl ?_
        refine pm_R_lo pm_M177 (pc' := 1) rfl rfl rfl ?_
        refine pm_R_op pm_M177 (pc' := 2) (st' := [.int 0, .int x1]) rfl rfl rfl ?_
        refine pm_R_lo pm_M177 (pc' := 3) rfl rfl rfl ?_
        refine pm_R_get pm_M177 (pc' := 6) (v := .ref 46) rfl rfl rfl (Nat.le_of_ble_eq_true rfl) (Nat.le_of_ble_eq_true rfl) rfl rfl ?_
        refine pm_R_lo pm_M177 (pc' := 7) rfl rfl rfl ?_
        refine pm_R_iald pm_M177 (pc' := 8) (v := 0) rfl (hh 46 (Nat.le_of_ble_eq_true rfl)) (Nat.le_of_ble_eq_true rfl) rfl rfl rfl ?_
        refine pm_R_op pm_M177 (pc' := 9) (st' := [.int 1, .int 0, .int 0, .int x1]) rfl rfl rfl ?_
        refine pm_R_op pm_M177 (pc' := 10) (st' := [.int (-1), .int 0, .int x1]) rfl rfl rfl ?_
        refine pm_R_cs pm_M177 (pc' := 13) (ra := [.int (-1), .int 0, .int x1]) (rest := []) (ls' := [.int x1, .int 0, .int (-1)]) rfl rfl (Or.inl rfl) pm_M174 rfl rfl (Nat.le_of_ble_eq_true rfl) rfl rfl ?_
        refine pm_R_lo pm_M174 (pc' := 1) rfl rfl rfl ?_
        refine pm_R_lo pm_M174 (pc' := 2) rfl rfl rfl ?_
        refine pm_R_icmp pm_M174 (t := 14) (pc' := 5) rfl rfl rfl (fun c_6 => ?_) (fun c_6 => by exact absurd c_1 c_6)
        refine pm_R_op pm_M174 (pc' := 15) (st' := [.int 0]) rfl rfl rfl ?_
        refine pm_R_ret pm_M174 (r := some (.int 0)) rfl rfl ?_
        show pm_R _ 177 13 [.ref 41, .int 0, .int x1] [.int 0] _ _
        refine pm_R_ret pm_M177 (r := some (.int 0)) rfl rfl ?_
        show pm_R _ 200 6 [.ref 41, .int x1, .int x2] [.int 0] _ _
        refine pm_R_br pm_M200 (pc' := 18) (st' := []) rfl rfl ?_
        refine pm_R_op pm_M200 (pc' := 19) (st' := [.int 0]) rfl rfl rfl ?_
        refine pm_R_ret pm_M200 (r := some (.int 0)) rfl rfl ?_
        show pm_R _ 293 11 [.ref 41, .int x1, .int x2, .int x3, pm_no, pm_no] [.int 0] _ _
        refine pm_R_br pm_M293 (pc' := 23) (st' := []) rfl rfl ?_
        refine pm_R_op pm_M293 (pc' := 24) (st' := [.int (-1)]) rfl rfl rfl ?_
        refine pm_R_ret pm_M293 (r := some (.int (-1))) rfl rfl ?_
        show pm_R _ 0 2047 [.ref 0, .ref 16, .ref 41, .int 0] [.int (-1), .int (-1)] _ _
        refine pm_R_br pm_M0 (pc' := 2121) (st' := []) (pm_q0_26 (Nat.le_of_ble_eq_true rfl)) rfl ?_
        exact p1_tail (hh 0 (Nat.le_of_ble_eq_true rfl)) (Nat.le_of_ble_eq_true rfl) (Nat.le_of_ble_eq_true rfl) (Nat.le_of_ble_eq_true rfl)
    · refine pm_R_lo pm_M66 (pc' := 5) rfl rfl rfl ?_
      refine pm_R_lo pm_M66 (pc' := 6) rfl rfl rfl ?_
      refine pm_R_get pm_M66 (pc' := 9) (v := .ref 17) rfl rfl (hh 16 (Nat.le_of_ble_eq_true rfl)) (Nat.le_of_ble_eq_true rfl) (Nat.le_of_ble_eq_true rfl) rfl rfl ?_
      refine pm_R_get pm_M66 (pc' := 12) (v := .ref 23) rfl rfl (hh 17 (Nat.le_of_ble_eq_true rfl)) (Nat.le_of_ble_eq_true rfl) (Nat.le_of_ble_eq_true rfl) rfl rfl ?_
      refine pm_R_op pm_M66 (pc' := 13) (st' := [.int 1, .ref 23, .int x2]) rfl rfl rfl ?_
      refine pm_R_iald pm_M66 (pc' := 14) (v := 0) rfl (hh 23 (Nat.le_of_ble_eq_true rfl)) (Nat.le_of_ble_eq_true rfl) rfl rfl rfl ?_
      refine pm_R_icmp pm_M66 (t := 21) (pc' := 17) rfl rfl rfl (fun c_7 => by exact absurd c_7 c_2) (fun c_7 => ?_)
      refine pm_R_op pm_M66 (pc' := 18) (st' := [.null]) rfl rfl rfl ?_
      refine pm_R_br pm_M66 (pc' := 30) rfl rfl ?_
      refine pm_R_ret pm_M66 (r := some (.null)) rfl rfl ?_
      show pm_R _ 111 12 [.ref 16, .int x1, .int x2, .int x3, .null, pm_no, pm_no] [.null] _ _
      refine pm_R_lo pm_M111 (pc' := 14) (ls' := [.ref 16, .int x1, .int x2, .int x3, .null, .null, pm_no]) (st' := []) rfl rfl rfl ?_
      refine pm_R_lo pm_M111 (pc' := 15) rfl rfl rfl ?_
      refine pm_R_lo pm_M111 (pc' := 16) rfl rfl rfl ?_
      refine pm_R_cv pm_M111 (pc' := 19) (a := 16) (ra := [.int x3]) (rest := []) (ls' := [.ref 16, .int x3]) rfl rfl (Or.inl rfl) pm_M66 (hh 16 (Nat.le_of_ble_eq_true rfl)) rfl (Nat.le_of_ble_eq_true rfl) (Nat.le_of_ble_eq_true rfl) rfl rfl (Nat.le_of_ble_eq_true rfl) rfl rfl ?_
      refine pm_R_lo pm_M66 (pc' := 1) rfl rfl rfl ?_
      refine pm_R_ifc pm_M66 (t := 17) (pc' := 4) rfl rfl rfl (fun c_8 => ?_) (fun c_8 => ?_)
      · refine pm_R_op pm_M66 (pc' := 18) (st' := [.null]) rfl rfl rfl ?_
        refine pm_R_br pm_M66 (pc' := 30) rfl rfl ?_
        refine pm_R_ret pm_M66 (r := some (.null)) rfl rfl ?_
        show pm_R _ 111 19 [.ref 16, .int x1, .int x2, .int x3, .null, .null, pm_no] [.null] _ _
        refine pm_R_lo pm_M111 (pc' := 21) (ls' := [.ref 16, .int x1, .int x2, .int x3, .null, .null, .null]) (st' := []) rfl rfl rfl ?_
        refine pm_R_lo pm_M111 (pc' := 23) rfl rfl rfl ?_
        refine pm_R_br pm_M111 (pc' := 36) rfl rfl ?_
        refine pm_R_op pm_M111 (pc' := 37) (st' := [.int (-1)]) rfl rfl rfl ?_
        refine pm_R_ret pm_M111 (r := some (.int (-1))) rfl rfl ?_
        show pm_R _ 0 2028 [.ref 0, .ref 16, .ref 41, .int 0] [.int (-1)] _ _
        refine pm_R_lo pm_M0 (pc' := 2029) (pm_q0_26 (Nat.le_of_ble_eq_true rfl)) rfl rfl ?_
        refine pm_R_lo pm_M0 (pc' := 2030) (pm_q0_26 (Nat.le_of_ble_eq_true rfl)) rfl rfl ?_
        refine pm_R_lo pm_M0 (pc' := 2031) (pm_q0_26 (Nat.le_of_ble_eq_true rfl)) rfl rfl ?_
        refine pm_R_op pm_M0 (pc' := 2032) (st' := [.int 1, .int 0, .ref 0, .ref 41, .int (-1)]) (pm_q0_26 (Nat.le_of_ble_eq_true rfl)) rfl rfl ?_
        refine pm_R_op pm_M0 (pc' := 2033) (st' := [.int 1, .ref 0, .ref 41, .int (-1)]) (pm_q0_26 (Nat.le_of_ble_eq_true rfl)) rfl rfl ?_
        refine pm_R_iald pm_M0 (pc' := 2034) (v := x1) (pm_q0_26 (Nat.le_of_ble_eq_true rfl)) (hh 0 (Nat.le_of_ble_eq_true rfl)) (Nat.le_of_ble_eq_true rfl) rfl hx1 rfl ?_
        refine pm_R_lo pm_M0 (pc' := 2035) (pm_q0_26 (Nat.le_of_ble_eq_true rfl)) rfl rfl ?_
        refine pm_R_lo pm_M0 (pc' := 2036) (pm_q0_26 (Nat.le_of_ble_eq_true rfl)) rfl rfl ?_
        refine pm_R_op pm_M0 (pc' := 2037) (st' := [.int 2, .int 0, .ref 0, .int x1, .ref 41, .int (-1)]) (pm_q0_26 (Nat.le_of_ble_eq_true rfl)) rfl rfl ?_
        refine pm_R_op pm_M0 (pc' := 2038) (st' := [.int 2, .ref 0, .int x1, .ref 41, .int (-1)]) (pm_q0_26 (Nat.le_of_ble_eq_true rfl)) rfl rfl ?_
        refine pm_R_iald pm_M0 (pc' := 2039) (v := x2) (pm_q0_26 (Nat.le_of_ble_eq_true rfl)) (hh 0 (Nat.le_of_ble_eq_true rfl)) (Nat.le_of_ble_eq_true rfl) rfl hx2 rfl ?_
        refine pm_R_lo pm_M0 (pc' := 2040) (pm_q0_26 (Nat.le_of_ble_eq_true rfl)) rfl rfl ?_
        refine pm_R_lo pm_M0 (pc' := 2041) (pm_q0_26 (Nat.le_of_ble_eq_true rfl)) rfl rfl ?_
        refine pm_R_op pm_M0 (pc' := 2042) (st' := [.int 3, .int 0, .ref 0, .int x2, .int x1, .ref 41, .int (-1)]) (pm_q0_26 (Nat.le_of_ble_eq_true rfl)) rfl rfl ?_
        refine pm_R_op pm_M0 (pc' := 2043) (st' := [.int 3, .ref 0, .int x2, .int x1, .ref 41, .int (-1)]) (pm_q0_26 (Nat.le_of_ble_eq_true rfl)) rfl rfl ?_
        refine pm_R_iald pm_M0 (pc' := 2044) (v := x3) (pm_q0_26 (Nat.le_of_ble_eq_true rfl)) (hh 0 (Nat.le_of_ble_eq_true rfl)) (Nat.le_of_ble_eq_true rfl) rfl hx3 rfl ?_
        refine pm_R_cv pm_M0 (pc' := 2047) (a := 41) (ra := [.int x3, .int x2, .int x1]) (rest := [.int (-1)]) (ls' := [.ref 41, .int x1, .int x2, .int x3, pm_no, pm_no]) (pm_q0_26 (Nat.le_of_ble_eq_true rfl)) rfl (Or.inl rfl) pm_M293 (hh 41 (Nat.le_of_ble_eq_true rfl)) rfl (Nat.le_of_ble_eq_true rfl) (Nat.le_of_ble_eq_true rfl) rfl rfl (Nat.le_of_ble_eq_true rfl) rfl rfl ?_
        refine pm_R_lo pm_M293 (pc' := 1) rfl rfl rfl ?_
        refine pm_R_op pm_M293 (pc' := 2) (st' := [.int 0, .ref 41]) rfl rfl rfl ?_
        refine pm_R_put pm_M293 (pc' := 5) (fs' := [.int 0, .ref 42, .ref 43, .ref 44, .ref 45, .ref 46, .ref 47, .ref 48, .ref 49, .ref 50, .int 0, .int 0, .int 0, .int 0, .int 0, .long 0, .int 0, .int 0, .int 0, .ref 51, .ref 52, .int 0, .int 0, .int 0, .int 0, .ref 53, .int 0, .int 0, .ref 54, .ref 55, .ref 56, .int 0, .ref 57, .ref 58, .ref 59, .ref 60, .ref 61, .ref 62, .ref 63, .ref 64, .ref 65, .ref 66, .int 0, .int 0, .int 0, .ref 67, .ref 68, .int 0, .ref 69, .int 0, .int 0, .ref 70, .ref 71]) rfl rfl rfl (hh 41 (Nat.le_of_ble_eq_true rfl)) (Nat.le_of_ble_eq_true rfl) (Nat.le_of_ble_eq_true rfl) (Nat.le_of_ble_eq_true rfl) rfl (Or.inl rfl) rfl rfl ?_
        refine pm_R_lo pm_M293 (pc' := 6) rfl rfl rfl ?_
        refine pm_R_lo pm_M293 (pc' := 7) rfl rfl rfl ?_
        refine pm_R_lo pm_M293 (pc' := 8) rfl rfl rfl ?_
        refine pm_R_cv pm_M293 (pc' := 11) (a := 41) (ra := [.int x2, .int x1]) (rest := []) (ls' := [.ref 41, .int x1, .int x2]) rfl rfl (Or.inl rfl) pm_M200 rfl rfl (Nat.le_of_ble_eq_true rfl) (Nat.le_of_ble_eq_true rfl) rfl rfl (Nat.le_of_ble_eq_true rfl) rfl rfl ?_
        refine pm_R_lo pm_M200 (pc' := 1) rfl rfl rfl ?_
        refine pm_R_op pm_M200 (pc' := 2) (st' := [.int 0, .ref 41]) rfl rfl rfl ?_
        refine pm_R_lo pm_M200 (pc' := 3) rfl rfl rfl ?_
        refine pm_R_cv pm_M200 (pc' := 6) (a := 41) (ra := [.int x1, .int 0]) (rest := []) (ls' := [.ref 41, .int 0, .int x1]) rfl rfl (Or.inl rfl) pm_M177 rfl rfl (Nat.le_of_ble_eq_true rfl) (Nat.le_of_ble_eq_true rfl) rfl rfl (Nat.le_of_ble_eq_true rfl) rfl rfl ?_
        refine pm_R_lo pm_M177 (pc' := 1) rfl rfl rfl ?_
        refine pm_R_op pm_M177 (pc' := 2) (st' := [.int 0, .int x1]) rfl rfl rfl ?_
        refine pm_R_lo pm_M177 (pc' := 3) rfl rfl rfl ?_
        refine pm_R_get pm_M177 (pc' := 6) (v := .ref 46) rfl rfl rfl (Nat.le_of_ble_eq_true rfl) (Nat.le_of_ble_eq_true rfl) rfl rfl ?_
        refine pm_R_lo pm_M177 (pc' := 7) rfl rfl rfl ?_
        refine pm_R_iald pm_M177 (pc' := 8) (v := 0) rfl (hh 46 (Nat.le_of_ble_eq_true rfl)) (Nat.le_of_ble_eq_true rfl) rfl rfl rfl ?_
        refine pm_R_op pm_M177 (pc' := 9) (st' := [.int 1, .int 0, .int 0, .int x1]) rfl rfl rfl ?_
        refine pm_R_op pm_M177 (pc' := 10) (st' := [.int (-1), .int 0, .int x1]) rfl rfl rfl ?_
        refine pm_R_cs pm_M177 (pc' := 13) (ra := [.int (-1), .int 0, .int x1]) (rest := []) (ls' := [.int x1, .int 0, .int (-1)]) rfl rfl (Or.inl rfl) pm_M174 rfl rfl (Nat.le_of_ble_eq_true rfl) rfl rfl ?_
        refine pm_R_lo pm_M174 (pc' := 1) rfl rfl rfl ?_
        refine pm_R_lo pm_M174 (pc' := 2) rfl rfl rfl ?_
        refine pm_R_icmp pm_M174 (t := 14) (pc' := 5) rfl rfl rfl (fun c_9 => ?_) (fun c_9 => by exact absurd c_1 c_9)
        refine pm_R_op pm_M174 (pc' := 15) (st' := [.int 0]) rfl rfl rfl ?_
        refine pm_R_ret pm_M174 (r := some (.int 0)) rfl rfl ?_
        show pm_R _ 177 13 [.ref 41, .int 0, .int x1] [.int 0] _ _
        refine pm_R_ret pm_M177 (r := some (.int 0)) rfl rfl ?_
        show pm_R _ 200 6 [.ref 41, .int x1, .int x2] [.int 0] _ _
        refine pm_R_br pm_M200 (pc' := 18) (st' := []) rfl rfl ?_
        refine pm_R_op pm_M200 (pc' := 19) (st' := [.int 0]) rfl rfl rfl ?_
        refine pm_R_ret pm_M200 (r := some (.int 0)) rfl rfl ?_
        show pm_R _ 293 11 [.ref 41, .int x1, .int x2, .int x3, pm_no, pm_no] [.int 0] _ _
        refine pm_R_br pm_M293 (pc' := 23) (st' := []) rfl rfl ?_
        refine pm_R_op pm_M293 (pc' := 24) (st' := [.int (-1)]) rfl rfl rfl ?_
        refine pm_R_ret pm_M293 (r := some (.int (-1))) rfl rfl ?_
        show pm_R _ 0 2047 [.ref 0, .ref 16, .ref 41, .int 0] [.int (-1), .int (-1)] _ _
        refine pm_R_br pm_M0 (pc' := 2121) (st' := []) (pm_q0_26 (Nat.le_of_ble_eq_true rfl)) rfl ?_
        exact p1_tail (hh 0 (Nat.le_of_ble_eq_true rfl)) (Nat.le_of_ble_eq_true rfl) (Nat.le_of_ble_eq_true rfl) (Nat.le_of_ble_eq_true rfl)
      · refine pm_R_lo pm_M66 (pc' := 5) rfl rfl rfl ?_
        refine pm_R_lo pm_M66 (pc' := 6) rfl rfl rfl ?_
        refine pm_R_get pm_M66 (pc' := 9) (v := .ref 17) rfl rfl (hh 16 (Nat.le_of_ble_eq_true rfl)) (Nat.le_of_ble_eq_true rfl) (Nat.le_of_ble_eq_true rfl) rfl rfl ?_
        refine pm_R_get pm_M66 (pc' := 12) (v := .ref 23) rfl rfl (hh 17 (Nat.le_of_ble_eq_true rfl)) (Nat.le_of_ble_eq_true rfl) (Nat.le_of_ble_eq_true rfl) rfl rfl ?_
        refine pm_R_op pm_M66 (pc' := 13) (st' := [.int 1, .ref 23, .int x3]) rfl rfl rfl ?_
        refine pm_R_iald pm_M66 (pc' := 14) (v := 0) rfl (hh 23 (Nat.le_of_ble_eq_true rfl)) (Nat.le_of_ble_eq_true rfl) rfl rfl rfl ?_
        refine pm_R_icmp pm_M66 (t := 21) (pc' := 17) rfl rfl rfl (fun c_10 => by exact absurd c_10 c_8) (fun c_10 => ?_)
        refine pm_R_op pm_M66 (pc' := 18) (st' := [.null]) rfl rfl rfl ?_
        refine pm_R_br pm_M66 (pc' := 30) rfl rfl ?_
        refine pm_R_ret pm_M66 (r := some (.null)) rfl rfl ?_
        show pm_R _ 111 19 [.ref 16, .int x1, .int x2, .int x3, .null, .null, pm_no] [.null] _ _
        refine pm_R_lo pm_M111 (pc' := 21) (ls' := [.ref 16, .int x1, .int x2, .int x3, .null, .null, .null]) (st' := []) rfl rfl rfl ?_
        refine pm_R_lo pm_M111 (pc' := 23) rfl rfl rfl ?_
        refine pm_R_br pm_M111 (pc' := 36) rfl rfl ?_
        refine pm_R_op pm_M111 (pc' := 37) (st' := [.int (-1)]) rfl rfl rfl ?_
        refine pm_R_ret pm_M111 (r := some (.int (-1))) rfl rfl ?_
        show pm_R _ 0 2028 [.ref 0, .ref 16, .ref 41, .int 0] [.int (-1)] _ _
        refine pm_R_lo pm_M0 (pc' := 2029) (pm_q0_26 (Nat.le_of_ble_eq_true rfl)) rfl rfl ?_
        refine pm_R_lo pm_M0 (pc' := 2030) (pm_q0_26 (Nat.le_of_ble_eq_true rfl)) rfl rfl ?_
        refine pm_R_lo pm_M0 (pc' := 2031) (pm_q0_26 (Nat.le_of_ble_eq_true rfl)) rfl rfl ?_
        refine pm_R_op pm_M0 (pc' := 2032) (st' := [.int 1, .int 0, .ref 0, .ref 41, .int (-1)]) (pm_q0_26 (Nat.le_of_ble_eq_true rfl)) rfl rfl ?_
        refine pm_R_op pm_M0 (pc' := 2033) (st' := [.int 1, .ref 0, .ref 41, .int (-1)]) (pm_q0_26 (Nat.le_of_ble_eq_true rfl)) rfl rfl ?_
        refine pm_R_iald pm_M0 (pc' := 2034) (v := x1) (pm_q0_26 (Nat.le_of_ble_eq_true rfl)) (hh 0 (Nat.le_of_ble_eq_true rfl)) (Nat.le_of_ble_eq_true rfl) rfl hx1 rfl ?_
        refine pm_R_lo pm_M0 (pc' := 2035) (pm_q0_26 (Nat.le_of_ble_eq_true rfl)) rfl rfl ?_
        refine pm_R_lo pm_M0 (pc' := 2036) (pm_q0_26 (Nat.le_of_ble_eq_true rfl)) rfl rfl ?_
        refine pm_R_op pm_M0 (pc' := 2037) (st' := [.int 2, .int 0, .ref 0, .int x1, .ref 41, .int (-1)]) (pm_q0_26 (Nat.le_of_ble_eq_true rfl)) rfl rfl ?_
        refine pm_R_op pm_M0 (pc' := 2038) (st' := [.int 2, .ref 0, .int x1, .ref 41, .int (-1)]) (pm_q0_26 (Nat.le_of_ble_eq_true rfl)) rfl rfl ?_
        refine pm_R_iald pm_M0 (pc' := 2039) (v := x2) (pm_q0_26 (Nat.le_of_ble_eq_true rfl)) (hh 0 (Nat.le_of_ble_eq_true rfl)) (Nat.le_of_ble_eq_true rfl) rfl hx2 rfl ?_
        refine pm_R_lo pm_M0 (pc' := 2040) (pm_q0_26 (Nat.le_of_ble_eq_true rfl)) rfl rfl ?_
        refine pm_R_lo pm_M0 (pc' := 2041) (pm_q0_26 (Nat.le_of_ble_eq_true rfl)) rfl rfl ?_
        refine pm_R_op pm_M0 (pc' := 2042) (st' := [.int 3, .int 0, .ref 0, .int x2, .int x1, .ref 41, .int (-1)]) (pm_q0_26 (Nat.le_of_ble_eq_true rfl)) rfl rfl ?_
        refine pm_R_op pm_M0 (pc' := 2043) (st' := [.int 3, .ref 0, .int x2, .int x1, .ref 41, .int (-1)]) (pm_q0_26 (Nat.le_of_ble_eq_true rfl)) rfl rfl ?_
        refine pm_R_iald pm_M0 (pc' := 2044) (v := x3) (pm_q0_26 (Nat.le_of_ble_eq_true rfl)) (hh 0 (Nat.le_of_ble_eq_true rfl)) (Nat.le_of_ble_eq_true rfl) rfl hx3 rfl ?_
        refine pm_R_cv pm_M0 (pc' := 2047) (a := 41) (ra := [.int x3, .int x2, .int x1]) (rest := [.int (-1)]) (ls' := [.ref 41, .int x1, .int x2, .int x3, pm_no, pm_no]) (pm_q0_26 (Nat.le_of_ble_eq_true rfl)) rfl (Or.inl rfl) pm_M293 (hh 41 (Nat.le_of_ble_eq_true rfl)) rfl (Nat.le_of_ble_eq_true rfl) (Nat.le_of_ble_eq_true rfl) rfl rfl (Nat.le_of_ble_eq_true rfl) rfl rfl ?_
        refine pm_R_lo pm_M293 (pc' := 1) rfl rfl rfl ?_
        refine pm_R_op pm_M293 (pc' := 2) (st' := [.int 0, .ref 41]) rfl rfl rfl ?_
        refine pm_R_put pm_M293 (pc' := 5) (fs' := [.int 0, .ref 42, .ref 43, .ref 44, .ref 45, .ref 46, .ref 47, .ref 48, .ref 49, .ref 50, .int 0, .int 0, .int 0, .int 0, .int 0, .long 0, .int 0, .int 0, .int 0, .ref 51, .ref 52, .int 0, .int 0, .int 0, .int 0, .ref 53, .int 0, .int 0, .ref 54, .ref 55, .ref 56, .int 0, .ref 57, .ref 58, .ref 59, .ref 60, .ref 61, .ref 62, .ref 63, .ref 64, .ref 65, .ref 66, .int 0, .int 0, .int 0, .ref 67, .ref 68, .int 0, .ref 69, .int 0, .int 0, .ref 70, .ref 71]) rfl rfl rfl (hh 41 (Nat.le_of_ble_eq_true rfl)) (Nat.le_of_ble_eq_true rfl) (Nat.le_of_ble_eq_true rfl) (Nat.le_of_ble_eq_true rfl) rfl (Or.inl rfl) rfl rfl ?_
        refine pm_R_lo pm_M293 (pc' := 6) rfl rfl rfl ?_
        refine pm_R_lo pm_M293 (pc' := 7) rfl rfl rfl ?_
        refine pm_R_lo pm_M293 (pc' := 8) rfl rfl rfl ?_
        refine pm_R_cv pm_M293 (pc' := 11) (a := 41) (ra := [.int x2, .int x1]) (rest := []) (ls' := [.ref 41, .int x1, .int x2]) rfl rfl (Or.inl rfl) pm_M200 rfl rfl (Nat.le_of_ble_eq_true rfl) (Nat.le_of_ble_eq_true rfl) rfl rfl (Nat.le_of_ble_eq_true rfl) rfl rfl ?_
        refine pm_R_lo pm_M200 (pc' := 1) rfl rfl rfl ?_
        refine pm_R_op pm_M200 (pc' := 2) (st' := [.int 0, .ref 41]) rfl rfl rfl ?_
        refine pm_R_lo pm_M200 (pc' := 3) rfl rfl rfl ?_
        refine pm_R_cv pm_M200 (pc' := 6) (a := 41) (ra := [.int x1, .int 0]) (rest := []) (ls' := [.ref 41, .int 0, .int x1]) rfl rfl (Or.inl rfl) pm_M177 rfl rfl (Nat.le_of_ble_eq_true rfl) (Nat.le_of_ble_eq_true rfl) rfl rfl (Nat.le_of_ble_eq_true rfl) rfl rfl ?_
        refine pm_R_lo pm_M177 (pc' := 1) rfl rfl rfl ?_
        refine pm_R_op pm_M177 (pc' := 2) (st' := [.int 0, .int x1]) rfl rfl rfl ?_
        refine pm_R_lo pm_M177 (pc' := 3) rfl rfl rfl ?_
        refine pm_R_get pm_M177 (pc' := 6) (v := .ref 46) rfl rfl rfl (Nat.le_of_ble_eq_true rfl) (Nat.le_of_ble_eq_true rfl) rfl rfl ?_
        refine pm_R_lo pm_M177 (pc' := 7) rfl rfl rfl ?_
        refine pm_R_iald pm_M177 (pc' := 8) (v := 0) rfl (hh 46 (Nat.le_of_ble_eq_true rfl)) (Nat.le_of_ble_eq_true rfl) rfl rfl rfl ?_
        refine pm_R_op pm_M177 (pc' := 9) (st' := [.int 1, .int 0, .int 0, .int x1]) rfl rfl rfl ?_
        refine pm_R_op pm_M177 (pc' := 10) (st' := [.int (-1), .int 0, .int x1]) rfl rfl rfl ?_
        refine pm_R_cs pm_M177 (pc' := 13) (ra := [.int (-1), .int 0, .int x1]) (rest := []) (ls' := [.int x1, .int 0, .int (-1)]) rfl rfl (Or.inl rfl) pm_M174 rfl rfl (Nat.le_of_ble_eq_true rfl) rfl rfl ?_
        refine pm_R_lo pm_M174 (pc' := 1) rfl rfl rfl ?_
        refine pm_R_lo pm_M174 (pc' := 2) rfl rfl rfl ?_
        refine pm_R_icmp pm_M174 (t := 14) (pc' := 5) rfl rfl rfl (fun c_11 => ?_) (fun c_11 => by exact absurd c_1 c_11)
        refine pm_R_op pm_M174 (pc' := 15) (st' := [.int 0]) rfl rfl rfl ?_
        refine pm_R_ret pm_M174 (r := some (.int 0)) rfl rfl ?_
        show pm_R _ 177 13 [.ref 41, .int 0, .int x1] [.int 0] _ _
        refine pm_R_ret pm_M177 (r := some (.int 0)) rfl rfl ?_
        show pm_R _ 200 6 [.ref 41, .int x1, .int x2] [.int 0] _ _
        refine pm_R_br pm_M200 (pc' := 18) (st' := []) rfl rfl ?_
        refine pm_R_op pm_M200 (pc' := 19) (st' := [.int 0]) rfl rfl rfl ?_
        refine pm_R_ret pm_M200 (r := some (.int 0)) rfl rfl ?_
        show pm_R _ 293 11 [.ref 41, .int x1, .int x2, .int x3, pm_no, pm_no] [.int 0] _ _
        refine pm_R_br pm_M293 (pc' := 23) (st' := []) rfl rfl ?_
        refine pm_R_op pm_M293 (pc' := 24) (st' := [.int (-1)]) rfl rfl rfl ?_
        refine pm_R_ret pm_M293 (r := some (.int (-1))) rfl rfl ?_
        show pm_R _ 0 2047 [.ref 0, .ref 16, .ref 41, .int 0] [.int (-1), .int (-1)] _ _
        refine pm_R_br pm_M0 (pc' := 2121) (st' := []) (pm_q0_26 (Nat.le_of_ble_eq_true rfl)) rfl ?_
        exact p1_tail (hh 0 (Nat.le_of_ble_eq_true rfl)) (Nat.le_of_ble_eq_true rfl) (Nat.le_of_ble_eq_true rfl) (Nat.le_of_ble_eq_true rfl)
  · refine pm_R_lo pm_M62 (pc' := 5) rfl rfl rfl ?_
    refine pm_R_lo pm_M62 (pc' := 6) rfl rfl rfl ?_
    refine pm_R_get pm_M62 (pc' := 9) (v := .ref 17) rfl rfl (hh 16 (Nat.le_of_ble_eq_true rfl)) (Nat.le_of_ble_eq_true rfl) (Nat.le_of_ble_eq_true rfl) rfl rfl ?_
    refine pm_R_get pm_M62 (pc' := 12) (v := .ref 23) rfl rfl (hh 17 (Nat.le_of_ble_eq_true rfl)) (Nat.le_of_ble_eq_true rfl) (Nat.le_of_ble_eq_true rfl) rfl rfl ?_
    refine pm_R_op pm_M62 (pc' := 13) (st' := [.int 0, .ref 23, .int x1]) rfl rfl rfl ?_
    refine pm_R_iald pm_M62 (pc' := 14) (v := 0) rfl (hh 23 (Nat.le_of_ble_eq_true rfl)) (Nat.le_of_ble_eq_true rfl) rfl rfl rfl ?_
    refine pm_R_icmp pm_M62 (t := 21) (pc' := 17) rfl rfl rfl (fun c_12 => by exact absurd c_12 c_1) (fun c_12 => ?_)
    refine pm_R_op pm_M62 (pc' := 18) (st' := [.null]) rfl rfl rfl ?_
    refine pm_R_br pm_M62 (pc' := 30) rfl rfl ?_
    refine pm_R_ret pm_M62 (r := some (.null)) rfl rfl ?_
    show pm_R _ 111 5 [.ref 16, .int x1, .int x2, .int x3, pm_no, pm_no, pm_no] [.null] _ _
    refine pm_R_lo pm_M111 (pc' := 7) (ls' := [.ref 16, .int x1, .int x2, .int x3, .null, pm_no, pm_no]) (st' := []) rfl rfl rfl ?_
    refine pm_R_lo pm_M111 (pc' := 8) rfl rfl rfl ?_
    refine pm_R_lo pm_M111 (pc' := 9) rfl rfl rfl ?_
    refine pm_R_cv pm_M111 (pc' := 12) (a := 16) (ra := [.int x2]) (rest := []) (ls' := [.ref 16, .int x2]) rfl rfl (Or.inl rfl) pm_M66 (hh 16 (Nat.le_of_ble_eq_true rfl)) rfl (Nat.le_of_ble_eq_true rfl) (Nat.le_of_ble_eq_true rfl) rfl rfl (Nat.le_of_ble_eq_true rfl) rfl rfl ?_
    refine pm_R_lo pm_M66 (pc' := 1) rfl rfl rfl ?_
    refine pm_R_ifc pm_M66 (t := 17) (pc' := 4) rfl rfl rfl (fun c_13 => ?_) (fun c_13 => ?_)
    · refine pm_R_op pm_M66 (pc' := 18) (st' := [.null]) rfl rfl rfl ?_
      refine pm_R_br pm_M66 (pc' := 30) rfl rfl ?_
      refine pm_R_ret pm_M66 (r := some (.null)) rfl rfl ?_
      show pm_R _ 111 12 [.ref 16, .int x1, .int x2, .int x3, .null, pm_no, pm_no] [.null] _ _
      refine pm_R_lo pm_M111 (pc' := 14) (ls' := [.ref 16, .int x1, .int x2, .int x3, .null, .null, pm_no]) (st' := []) rfl rfl rfl ?_
      refine pm_R_lo pm_M111 (pc' := 15) rfl rfl rfl ?_
      refine pm_R_lo pm_M111 (pc' := 16) rfl rfl rfl ?_
      refine pm_R_cv pm_M111 (pc' := 19) (a := 16) (ra := [.int x3]) (rest := []) (ls' := [.ref 16, .int x3]) rfl rfl (Or.inl rfl) pm_M66 (hh 16 (Nat.le_of_ble_eq_true rfl)) rfl (Nat.le_of_ble_eq_true rfl) (Nat.le_of_ble_eq_true rfl) rfl rfl (Nat.le_of_ble_eq_true rfl) rfl rfl ?_
      refine pm_R_lo pm_M66 (pc' := 1) rfl rfl rfl ?_
      refine pm_R_ifc pm_M66 (t := 17) (pc' := 4) rfl rfl rfl (fun c_14 => ?_) (fun c_14 => ?_)
      · refine pm_R_op pm_M66 (pc' := 18) (st' := [.null]) rfl rfl rfl ?_
        refine pm_R_br pm_M66 (pc' := 30) rfl rfl ?_
        refine pm_R_ret pm_M66 (r := some (.null)) rfl rfl ?_
        show pm_R _ 111 19 [.ref 16, .int x1, .int x2, .int x3, .null, .null, pm_no] [.null] _ _
        refine pm_R_lo pm_M111 (pc' := 21) (ls' := [.ref 16, .int x1, .int x2, .int x3, .null, .null, .null]) (st' := []) rfl rfl rfl ?_
        refine pm_R_lo pm_M111 (pc' := 23) rfl rfl rfl ?_
        refine pm_R_br pm_M111 (pc' := 36) rfl rfl ?_
        refine pm_R_op pm_M111 (pc' := 37) (st' := [.int (-1)]) rfl rfl rfl ?_
        refine pm_R_ret pm_M111 (r := some (.int (-1))) rfl rfl ?_
        show pm_R _ 0 2028 [.ref 0, .ref 16, .ref 41, .int 0] [.int (-1)] _ _
        refine pm_R_lo pm_M0 (pc' := 2029) (pm_q0_26 (Nat.le_of_ble_eq_true rfl)) rfl rfl ?_
        refine pm_R_lo pm_M0 (pc' := 2030) (pm_q0_26 (Nat.le_of_ble_eq_true rfl)) rfl rfl ?_
        refine pm_R_lo pm_M0 (pc' := 2031) (pm_q0_26 (Nat.le_of_ble_eq_true rfl)) rfl rfl ?_
        refine pm_R_op pm_M0 (pc' := 2032) (st' := [.int 1, .int 0, .ref 0, .ref 41, .int (-1)]) (pm_q0_26 (Nat.le_of_ble_eq_true rfl)) rfl rfl ?_
        refine pm_R_op pm_M0 (pc' := 2033) (st' := [.int 1, .ref 0, .ref 41, .int (-1)]) (pm_q0_26 (Nat.le_of_ble_eq_true rfl)) rfl rfl ?_
        refine pm_R_iald pm_M0 (pc' := 2034) (v := x1) (pm_q0_26 (Nat.le_of_ble_eq_true rfl)) (hh 0 (Nat.le_of_ble_eq_true rfl)) (Nat.le_of_ble_eq_true rfl) rfl hx1 rfl ?_
        refine pm_R_lo pm_M0 (pc' := 2035) (pm_q0_26 (Nat.le_of_ble_eq_true rfl)) rfl rfl ?_
        refine pm_R_lo pm_M0 (pc' := 2036) (pm_q0_26 (Nat.le_of_ble_eq_true rfl)) rfl rfl ?_
        refine pm_R_op pm_M0 (pc' := 2037) (st' := [.int 2, .int 0, .ref 0, .int x1, .ref 41, .int (-1)]) (pm_q0_26 (Nat.le_of_ble_eq_true rfl)) rfl rfl ?_
        refine pm_R_op pm_M0 (pc' := 2038) (st' := [.int 2, .ref 0, .int x1, .ref 41, .int (-1)]) (pm_q0_26 (Nat.le_of_ble_eq_true rfl)) rfl rfl ?_
        refine pm_R_iald pm_M0 (pc' := 2039) (v := x2) (pm_q0_26 (Nat.le_of_ble_eq_true rfl)) (hh 0 (Nat.le_of_ble_eq_true rfl)) (Nat.le_of_ble_eq_true rfl) rfl hx2 rfl ?_
        refine pm_R_lo pm_M0 (pc' := 2040) (pm_q0_26 (Nat.le_of_ble_eq_true rfl)) rfl rfl ?_
        refine pm_R_lo pm_M0 (pc' := 2041) (pm_q0_26 (Nat.le_of_ble_eq_true rfl)) rfl rfl ?_
        refine pm_R_op pm_M0 (pc' := 2042) (st' := [.int 3, .int 0, .ref 0, .int x2, .int x1, .ref 41, .int (-1)]) (pm_q0_26 (Nat.le_of_ble_eq_true rfl)) rfl rfl ?_
        refine pm_R_op pm_M0 (pc' := 2043) (st' := [.int 3, .ref 0, .int x2, .int x1, .ref 41, .int (-1)]) (pm_q0_26 (Nat.le_of_ble_eq_true rfl)) rfl rfl ?_
        refine pm_R_iald pm_M0 (pc' := 2044) (v := x3) (pm_q0_26 (Nat.le_of_ble_eq_true rfl)) (hh 0 (Nat.le_of_ble_eq_true rfl)) (Nat.le_of_ble_eq_true rfl) rfl hx3 rfl ?_
        refine pm_R_cv pm_M0 (pc' := 2047) (a := 41) (ra := [.int x3, .int x2, .int x1]) (rest := [.int (-1)]) (ls' := [.ref 41, .int x1, .int x2, .int x3, pm_no, pm_no]) (pm_q0_26 (Nat.le_of_ble_eq_true rfl)) rfl (Or.inl rfl) pm_M293 (hh 41 (Nat.le_of_ble_eq_true rfl)) rfl (Nat.le_of_ble_eq_true rfl) (Nat.le_of_ble_eq_true rfl) rfl rfl (Nat.le_of_ble_eq_true rfl) rfl rfl ?_
        refine pm_R_lo pm_M293 (pc' := 1) rfl rfl rfl ?_
        refine pm_R_op pm_M293 (pc' := 2) (st' := [.int 0, .ref 41]) rfl rfl rfl ?_
        refine pm_R_put pm_M293 (pc' := 5) (fs' := [.int 0, .ref 42, .ref 43, .ref 44, .ref 45, .ref 46, .ref 47, .ref 48, .ref 49, .ref 50, .int 0, .int 0, .int 0, .int 0, .int 0, .long 0, .int 0, .int 0, .int 0, .ref 51, .ref 52, .int 0, .int 0, .int 0, .int 0, .ref 53, .int 0, .int 0, .ref 54, .ref 55, .ref 56, .int 0, .ref 57, .ref 58, .ref 59, .ref 60, .ref 61, .ref 62, .ref 63, .ref 64, .ref 65, .ref 66, .int 0, .int 0, .int 0, .ref 67, .ref 68, .int 0, .ref 69, .int 0, .int 0, .ref 70, .ref 71]) rfl rfl rfl (hh 41 (Nat.le_of_ble_eq_true rfl)) (Nat.le_of_ble_eq_true rfl) (Nat.le_of_ble_eq_true rfl) (Nat.le_of_ble_eq_true rfl) rfl (Or.inl rfl) rfl rfl ?_
        refine pm_R_lo pm_M293 (pc' := 6) rfl rfl rfl ?_
        refine pm_R_lo pm_M293 (pc' := 7) rfl rfl rfl ?_
        refine pm_R_lo pm_M293 (pc' := 8) rfl rfl rfl ?_
        refine pm_R_cv pm_M293 (pc' := 11) (a := 41) (ra := [.int x2, .int x1]) (rest := []) (ls' := [.ref 41, .int x1, .int x2]) rfl rfl (Or.inl rfl) pm_M200 rfl rfl (Nat.le_of_ble_eq_true rfl) (Nat.le_of_ble_eq_true rfl) rfl rfl (Nat.le_of_ble_eq_true rfl) rfl rfl ?_
        refine pm_R_lo pm_M200 (pc' := 1) rfl rfl rfl ?_
        refine pm_R_op pm_M200 (pc' := 2) (st' := [.int 0, .ref 41]) rfl rfl rfl ?_
        refine pm_R_lo pm_M200 (pc' := 3) rfl rfl rfl ?_
        refine pm_R_cv pm_M200 (pc' := 6) (a := 41) (ra := [.int x1, .int 0]) (rest := []) (ls' := [.ref 41, .int 0, .int x1]) rfl rfl (Or.inl rfl) pm_M177 rfl rfl (Nat.le_of_ble_eq_true rfl) (Nat.le_of_ble_eq_true rfl) rfl rfl (Nat.le_of_ble_eq_true rfl) rfl rfl ?_
        refine pm_R_lo pm_M177 (pc' := 1) rfl rfl rfl ?_
        refine pm_R_op pm_M177 (pc' := 2) (st' := [.int 0, .int x1]) rfl rfl rfl ?_
        refine pm_R_lo pm_M177 (pc' := 3) rfl rfl rfl ?_
        refine pm_R_get pm_M177 (pc' := 6) (v := .ref 46) rfl rfl rfl (Nat.le_of_ble_eq_true rfl) (Nat.le_of_ble_eq_true rfl) rfl rfl ?_
        refine pm_R_lo pm_M177 (pc' := 7) rfl rfl rfl ?_
        refine pm_R_iald pm_M177 (pc' := 8) (v := 0) rfl (hh 46 (Nat.le_of_ble_eq_true rfl)) (Nat.le_of_ble_eq_true rfl) rfl rfl rfl ?_
        refine pm_R_op pm_M177 (pc' := 9) (st' := [.int 1, .int 0, .int 0, .int x1]) rfl rfl rfl ?_
        refine pm_R_op pm_M177 (pc' := 10) (st' := [.int (-1), .int 0, .int x1]) rfl rfl rfl ?_
        refine pm_R_cs pm_M177 (pc' := 13) (ra := [.int (-1), .int 0, .int x1]) (rest := []) (ls' := [.int x1, .int 0, .int (-1)]) rfl rfl (Or.inl rfl) pm_M174 rfl rfl (Nat.le_of_ble_eq_true rfl) rfl rfl ?_
        refine pm_R_lo pm_M174 (pc' := 1) rfl rfl rfl ?_
        refine pm_R_lo pm_M174 (pc' := 2) rfl rfl rfl ?_
        refine pm_R_icmp pm_M174 (t := 14) (pc' := 5) rfl rfl rfl (fun c_15 => by exact absurd c_15 c_1) (fun c_15 => ?_)
        refine pm_R_lo pm_M174 (pc' := 6) rfl rfl rfl ?_
        refine pm_R_lo pm_M174 (pc' := 7) rfl rfl rfl ?_
        refine pm_R_icmp pm_M174 (t := 14) (pc' := 10) rfl rfl rfl (fun c_16 => ?_) (fun c_16 => by have z0 : ((-1) : Int32).toInt = -1 := (by decide); have z1 : ((0) : Int32).toInt = 0 := (by decide); have q0 := (Int32.le_iff_toInt_le.mp (Int32.not_lt.mp c_1)); have q1 := (Int32.le_iff_toInt_le.mp (Int32.not_lt.mp c_16)); exfalso; omega)
        refine pm_R_op pm_M174 (pc' := 15) (st' := [.int 0]) rfl rfl rfl ?_
        refine pm_R_ret pm_M174 (r := some (.int 0)) rfl rfl ?_
        show pm_R _ 177 13 [.ref 41, .int 0, .int x1] [.int 0] _ _
        refine pm_R_ret pm_M177 (r := some (.int 0)) rfl rfl ?_
        show pm_R _ 200 6 [.ref 41, .int x1, .int x2] [.int 0] _ _
        refine pm_R_br pm_M200 (pc' := 18) (st' := []) rfl rfl ?_
        refine pm_R_op pm_M200 (pc' := 19) (st' := [.int 0]) rfl rfl rfl ?_
        refine pm_R_ret pm_M200 (r := some (.int 0)) rfl rfl ?_
        show pm_R _ 293 11 [.ref 41, .int x1, .int x2, .int x3, pm_no, pm_no] [.int 0] _ _
        refine pm_R_br pm_M293 (pc' := 23) (st' := []) rfl rfl ?_
        refine pm_R_op pm_M293 (pc' := 24) (st' := [.int (-1)]) rfl rfl rfl ?_
        refine pm_R_ret pm_M293 (r := some (.int (-1))) rfl rfl ?_
        show pm_R _ 0 2047 [.ref 0, .ref 16, .ref 41, .int 0] [.int (-1), .int (-1)] _ _
        refine pm_R_br pm_M0 (pc' := 2121) (st' := []) (pm_q0_26 (Nat.le_of_ble_eq_true rfl)) rfl ?_
        exact p1_tail (hh 0 (Nat.le_of_ble_eq_true rfl)) (Nat.le_of_ble_eq_true rfl) (Nat.le_of_ble_eq_true rfl) (Nat.le_of_ble_eq_true rfl)
      · refine pm_R_lo pm_M66 (pc' := 5) rfl rfl rfl ?_
        refine pm_R_lo pm_M66 (pc' := 6) rfl rfl rfl ?_
        refine pm_R_get pm_M66 (pc' := 9) (v := .ref 17) rfl rfl (hh 16 (Nat.le_of_ble_eq_true rfl)) (Nat.le_of_ble_eq_true rfl) (Nat.le_of_ble_eq_true rfl) rfl rfl ?_
        refine pm_R_get pm_M66 (pc' := 12) (v := .ref 23) rfl rfl (hh 17 (Nat.le_of_ble_eq_true rfl)) (Nat.le_of_ble_eq_true rfl) (Nat.le_of_ble_eq_true rfl) rfl rfl ?_
        refine pm_R_op pm_M66 (pc' := 13) (st' := [.int 1, .ref 23, .int x3]) rfl rfl rfl ?_
        refine pm_R_iald pm_M66 (pc' := 14) (v := 0) rfl (hh 23 (Nat.le_of_ble_eq_true rfl)) (Nat.le_of_ble_eq_true rfl) rfl rfl rfl ?_
        refine pm_R_icmp pm_M66 (t := 21) (pc' := 17) rfl rfl rfl (fun c_17 => by exact absurd c_17 c_14) (fun c_17 => ?_)
        refine pm_R_op pm_M66 (pc' := 18) (st' := [.null]) rfl rfl rfl ?_
        refine pm_R_br pm_M66 (pc' := 30) rfl rfl ?_
        refine pm_R_ret pm_M66 (r := some (.null)) rfl rfl ?_
        show pm_R _ 111 19 [.ref 16, .int x1, .int x2, .int x3, .null, .null, pm_no] [.null] _ _
        refine pm_R_lo pm_M111 (pc' := 21) (ls' := [.ref 16, .int x1, .int x2, .int x3, .null, .null, .null]) (st' := []) rfl rfl rfl ?_
        refine pm_R_lo pm_M111 (pc' := 23) rfl rfl rfl ?_
        refine pm_R_br pm_M111 (pc' := 36) rfl rfl ?_
        refine pm_R_op pm_M111 (pc' := 37) (st' := [.int (-1)]) rfl rfl rfl ?_
        refine pm_R_ret pm_M111 (r := some (.int (-1))) rfl rfl ?_
        show pm_R _ 0 2028 [.ref 0, .ref 16, .ref 41, .int 0] [.int (-1)] _ _
        refine pm_R_lo pm_M0 (pc' := 2029) (pm_q0_26 (Nat.le_of_ble_eq_true rfl)) rfl rfl ?_
        refine pm_R_lo pm_M0 (pc' := 2030) (pm_q0_26 (Nat.le_of_ble_eq_true rfl)) rfl rfl ?_
        refine pm_R_lo pm_M0 (pc' := 2031) (pm_q0_26 (Nat.le_of_ble_eq_true rfl)) rfl rfl ?_
        refine pm_R_op pm_M0 (pc' := 2032) (st' := [.int 1, .int 0, .ref 0, .ref 41, .int (-1)]) (pm_q0_26 (Nat.le_of_ble_eq_true rfl)) rfl rfl ?_
        refine pm_R_op pm_M0 (pc' := 2033) (st' := [.int 1, .ref 0, .ref 41, .int (-1)]) (pm_q0_26 (Nat.le_of_ble_eq_true rfl)) rfl rfl ?_
        refine pm_R_iald pm_M0 (pc' := 2034) (v := x1) (pm_q0_26 (Nat.le_of_ble_eq_true rfl)) (hh 0 (Nat.le_of_ble_eq_true rfl)) (Nat.le_of_ble_eq_true rfl) rfl hx1 rfl ?_
        refine pm_R_lo pm_M0 (pc' := 2035) (pm_q0_26 (Nat.le_of_ble_eq_true rfl)) rfl rfl ?_
        refine pm_R_lo pm_M0 (pc' := 2036) (pm_q0_26 (Nat.le_of_ble_eq_true rfl)) rfl rfl ?_
        refine pm_R_op pm_M0 (pc' := 2037) (st' := [.int 2, .int 0, .ref 0, .int x1, .ref 41, .int (-1)]) (pm_q0_26 (Nat.le_of_ble_eq_true rfl)) rfl rfl ?_
        refine pm_R_op pm_M0 (pc' := 2038) (st' := [.int 2, .ref 0, .int x1, .ref 41, .int (-1)]) (pm_q0_26 (Nat.le_of_ble_eq_true rfl)) rfl rfl ?_
        refine pm_R_iald pm_M0 (pc' := 2039) (v := x2) (pm_q0_26 (Nat.le_of_ble_eq_true rfl)) (hh 0 (Nat.le_of_ble_eq_true rfl)) (Nat.le_of_ble_eq_true rfl) rfl hx2 rfl ?_
        refine pm_R_lo pm_M0 (pc' := 2040) (pm_q0_26 (Nat.le_of_ble_eq_true rfl)) rfl rfl ?_
        refine pm_R_lo pm_M0 (pc' := 2041) (pm_q0_26 (Nat.le_of_ble_eq_true rfl)) rfl rfl ?_
        refine pm_R_op pm_M0 (pc' := 2042) (st' := [.int 3, .int 0, .ref 0, .int x2, .int x1, .ref 41, .int (-1)]) (pm_q0_26 (Nat.le_of_ble_eq_true rfl)) rfl rfl ?_
        refine pm_R_op pm_M0 (pc' := 2043) (st' := [.int 3, .ref 0, .int x2, .int x1, .ref 41, .int (-1)]) (pm_q0_26 (Nat.le_of_ble_eq_true rfl)) rfl rfl ?_
        refine pm_R_iald pm_M0 (pc' := 2044) (v := x3) (pm_q0_26 (Nat.le_of_ble_eq_true rfl)) (hh 0 (Nat.le_of_ble_eq_true rfl)) (Nat.le_of_ble_eq_true rfl) rfl hx3 rfl ?_
        refine pm_R_cv pm_M0 (pc' := 2047) (a := 41) (ra := [.int x3, .int x2, .int x1]) (rest := [.int (-1)]) (ls' := [.ref 41, .int x1, .int x2, .int x3, pm_no, pm_no]) (pm_q0_26 (Nat.le_of_ble_eq_true rfl)) rfl (Or.inl rfl) pm_M293 (hh 41 (Nat.le_of_ble_eq_true rfl)) rfl (Nat.le_of_ble_eq_true rfl) (Nat.le_of_ble_eq_true rfl) rfl rfl (Nat.le_of_ble_eq_true rfl) rfl rfl ?_
        refine pm_R_lo pm_M293 (pc' := 1) rfl rfl rfl ?_
        refine pm_R_op pm_M293 (pc' := 2) (st' := [.int 0, .ref 41]) rfl rfl rfl ?_
        refine pm_R_put pm_M293 (pc' := 5) (fs' := [.int 0, .ref 42, .ref 43, .ref 44, .ref 45, .ref 46, .ref 47, .ref 48, .ref 49, .ref 50, .int 0, .int 0, .int 0, .int 0, .int 0, .long 0, .int 0, .int 0, .int 0, .ref 51, .ref 52, .int 0, .int 0, .int 0, .int 0, .ref 53, .int 0, .int 0, .ref 54, .ref 55, .ref 56, .int 0, .ref 57, .ref 58, .ref 59, .ref 60, .ref 61, .ref 62, .ref 63, .ref 64, .ref 65, .ref 66, .int 0, .int 0, .int 0, .ref 67, .ref 68, .int 0, .ref 69, .int 0, .int 0, .ref 70, .ref 71]) rfl rfl rfl (hh 41 (Nat.le_of_ble_eq_true rfl)) (Nat.le_of_ble_eq_true rfl) (Nat.le_of_ble_eq_true rfl) (Nat.le_of_ble_eq_true rfl) rfl (Or.inl rfl) rfl rfl ?_
        refine pm_R_lo pm_M293 (pc' := 6) rfl rfl rfl ?_
        refine pm_R_lo pm_M293 (pc' := 7) rfl rfl rfl ?_
        refine pm_R_lo pm_M293 (pc' := 8) rfl rfl rfl ?_
        refine pm_R_cv pm_M293 (pc' := 11) (a := 41) (ra := [.int x2, .int x1]) (rest := []) (ls' := [.ref 41, .int x1, .int x2]) rfl rfl (Or.inl rfl) pm_M200 rfl rfl (Nat.le_of_ble_eq_true rfl) (Nat.le_of_ble_eq_true rfl) rfl rfl (Nat.le_of_ble_eq_true rfl) rfl rfl ?_
        refine pm_R_lo pm_M200 (pc' := 1) rfl rfl rfl ?_
        refine pm_R_op pm_M200 (pc' := 2) (st' := [.int 0, .ref 41]) rfl rfl rfl ?_
        refine pm_R_lo pm_M200 (pc' := 3) rfl rfl rfl ?_
        refine pm_R_cv pm_M200 (pc' := 6) (a := 41) (ra := [.int x1, .int 0]) (rest := []) (ls' := [.ref 41, .int 0, .int x1]) rfl rfl (Or.inl rfl) pm_M177 rfl rfl (Nat.le_of_ble_eq_true rfl) (Nat.le_of_ble_eq_true rfl) rfl rfl (Nat.le_of_ble_eq_true rfl) rfl rfl ?_
        refine pm_R_lo pm_M177 (pc' := 1) rfl rfl rfl ?_
        refine pm_R_op pm_M177 (pc' := 2) (st' := [.int 0, .int x1]) rfl rfl rfl ?_
        refine pm_R_lo pm_M177 (pc' := 3) rfl rfl rfl ?_
        refine pm_R_get pm_M177 (pc' := 6) (v := .ref 46) rfl rfl rfl (Nat.le_of_ble_eq_true rfl) (Nat.le_of_ble_eq_true rfl) rfl rfl ?_
        refine pm_R_lo pm_M177 (pc' := 7) rfl rfl rfl ?_
        refine pm_R_iald pm_M177 (pc' := 8) (v := 0) rfl (hh 46 (Nat.le_of_ble_eq_true rfl)) (Nat.le_of_ble_eq_true rfl) rfl rfl rfl ?_
        refine pm_R_op pm_M177 (pc' := 9) (st' := [.int 1, .int 0, .int 0, .int x1]) rfl rfl rfl ?_
        refine pm_R_op pm_M177 (pc' := 10) (st' := [.int (-1), .int 0, .int x1]) rfl rfl rfl ?_
        refine pm_R_cs pm_M177 (pc' := 13) (ra := [.int (-1), .int 0, .int x1]) (rest := []) (ls' := [.int x1, .int 0, .int (-1)]) rfl rfl (Or.inl rfl) pm_M174 rfl rfl (Nat.le_of_ble_eq_true rfl) rfl rfl ?_
        refine pm_R_lo pm_M174 (pc' := 1) rfl rfl rfl ?_
        refine pm_R_lo pm_M174 (pc' := 2) rfl rfl rfl ?_
        refine pm_R_icmp pm_M174 (t := 14) (pc' := 5) rfl rfl rfl (fun c_18 => by exact absurd c_18 c_1) (fun c_18 => ?_)
        refine pm_R_lo pm_M174 (pc' := 6) rfl rfl rfl ?_
        refine pm_R_lo pm_M174 (pc' := 7) rfl rfl rfl ?_
        refine pm_R_icmp pm_M174 (t := 14) (pc' := 10) rfl rfl rfl (fun c_19 => ?_) (fun c_19 => by have z0 : ((-1) : Int32).toInt = -1 := (by decide); have z1 : ((0) : Int32).toInt = 0 := (by decide); have q0 := (Int32.le_iff_toInt_le.mp (Int32.not_lt.mp c_1)); have q1 := (Int32.le_iff_toInt_le.mp (Int32.not_lt.mp c_19)); exfalso; omega)
        refine pm_R_op pm_M174 (pc' := 15) (st' := [.int 0]) rfl rfl rfl ?_
        refine pm_R_ret pm_M174 (r := some (.int 0)) rfl rfl ?_
        show pm_R _ 177 13 [.ref 41, .int 0, .int x1] [.int 0] _ _
        refine pm_R_ret pm_M177 (r := some (.int 0)) rfl rfl ?_
        show pm_R _ 200 6 [.ref 41, .int x1, .int x2] [.int 0] _ _
        refine pm_R_br pm_M200 (pc' := 18) (st' := []) rfl rfl ?_
        refine pm_R_op pm_M200 (pc' := 19) (st' := [.int 0]) rfl rfl rfl ?_
        refine pm_R_ret pm_M200 (r := some (.int 0)) rfl rfl ?_
        show pm_R _ 293 11 [.ref 41, .int x1, .int x2, .int x3, pm_no, pm_no] [.int 0] _ _
        refine pm_R_br pm_M293 (pc' := 23) (st' := []) rfl rfl ?_
        refine pm_R_op pm_M293 (pc' := 24) (st' := [.int (-1)]) rfl rfl rfl ?_
        refine pm_R_ret pm_M293 (r := some (.int (-1))) rfl rfl ?_
        show pm_R _ 0 2047 [.ref 0, .ref 16, .ref 41, .int 0] [.int (-1), .int (-1)] _ _
        refine pm_R_br pm_M0 (pc' := 2121) (st' := []) (pm_q0_26 (Nat.le_of_ble_eq_true rfl)) rfl ?_
        exact p1_tail (hh 0 (Nat.le_of_ble_eq_true rfl)) (Nat.le_of_ble_eq_true rfl) (Nat.le_of_ble_eq_true rfl) (Nat.le_of_ble_eq_true rfl)
    · refine pm_R_lo pm_M66 (pc' := 5) rfl rfl rfl ?_
      refine pm_R_lo pm_M66 (pc' := 6) rfl rfl rfl ?_
      refine pm_R_get pm_M66 (pc' := 9) (v := .ref 17) rfl rfl (hh 16 (Nat.le_of_ble_eq_true rfl)) (Nat.le_of_ble_eq_true rfl) (Nat.le_of_ble_eq_true rfl) rfl rfl ?_
      refine pm_R_get pm_M66 (pc' := 12) (v := .ref 23) rfl rfl (hh 17 (Nat.le_of_ble_eq_true rfl)) (Nat.le_of_ble_eq_true rfl) (Nat.le_of_ble_eq_true rfl) rfl rfl ?_
      refine pm_R_op pm_M66 (pc' := 13) (st' := [.int 1, .ref 23, .int x2]) rfl rfl rfl ?_
      refine pm_R_iald pm_M66 (pc' := 14) (v := 0) rfl (hh 23 (Nat.le_of_ble_eq_true rfl)) (Nat.le_of_ble_eq_true rfl) rfl rfl rfl ?_
      refine pm_R_icmp pm_M66 (t := 21) (pc' := 17) rfl rfl rfl (fun c_20 => by exact absurd c_20 c_13) (fun c_20 => ?_)
      refine pm_R_op pm_M66 (pc' := 18) (st' := [.null]) rfl rfl rfl ?_
      refine pm_R_br pm_M66 (pc' := 30) rfl rfl ?_
      refine pm_R_ret pm_M66 (r := some (.null)) rfl rfl ?_
      show pm_R _ 111 12 [.ref 16, .int x1, .int x2, .int x3, .null, pm_no, pm_no] [.null] _ _
      refine pm_R_lo pm_M111 (pc' := 14) (ls' := [.ref 16, .int x1, .int x2, .int x3, .null, .null, pm_no]) (st' := []) rfl rfl rfl ?_
      refine pm_R_lo pm_M111 (pc' := 15) rfl rfl rfl ?_
      refine pm_R_lo pm_M111 (pc' := 16) rfl rfl rfl ?_
      refine pm_R_cv pm_M111 (pc' := 19) (a := 16) (ra := [.int x3]) (rest := []) (ls' := [.ref 16, .int x3]) rfl rfl (Or.inl rfl) pm_M66 (hh 16 (Nat.le_of_ble_eq_true rfl)) rfl (Nat.le_of_ble_eq_true rfl) (Nat.le_of_ble_eq_true rfl) rfl rfl (Nat.le_of_ble_eq_true rfl) rfl rfl ?_
      refine pm_R_lo pm_M66 (pc' := 1) rfl rfl rfl ?_
      refine pm_R_ifc pm_M66 (t := 17) (pc' := 4) rfl rfl rfl (fun c_21 => ?_) (fun c_21 => ?_)
      · refine pm_R_op pm_M66 (pc' := 18) (st' := [.null]) rfl rfl rfl ?_
        refine pm_R_br pm_M66 (pc' := 30) rfl rfl ?_
        refine pm_R_ret pm_M66 (r := some (.null)) rfl rfl ?_
        show pm_R _ 111 19 [.ref 16, .int x1, .int x2, .int x3, .null, .null, pm_no] [.null] _ _
        refine pm_R_lo pm_M111 (pc' := 21) (ls' := [.ref 16, .int x1, .int x2, .int x3, .null, .null, .null]) (st' := []) rfl rfl rfl ?_
        refine pm_R_lo pm_M111 (pc' := 23) rfl rfl rfl ?_
        refine pm_R_br pm_M111 (pc' := 36) rfl rfl ?_
        refine pm_R_op pm_M111 (pc' := 37) (st' := [.int (-1)]) rfl rfl rfl ?_
        refine pm_R_ret pm_M111 (r := some (.int (-1))) rfl rfl ?_
        show pm_R _ 0 2028 [.ref 0, .ref 16, .ref 41, .int 0] [.int (-1)] _ _
        refine pm_R_lo pm_M0 (pc' := 2029) (pm_q0_26 (Nat.le_of_ble_eq_true rfl)) rfl rfl ?_
        refine pm_R_lo pm_M0 (pc' := 2030) (pm_q0_26 (Nat.le_of_ble_eq_true rfl)) rfl rfl ?_
        refine pm_R_lo pm_M0 (pc' := 2031) (pm_q0_26 (Nat.le_of_ble_eq_true rfl)) rfl rfl ?_
        refine pm_R_op pm_M0 (pc' := 2032) (st' := [.int 1, .int 0, .ref 0, .ref 41, .int (-1)]) (pm_q0_26 (Nat.le_of_ble_eq_true rfl)) rfl rfl ?_
        refine pm_R_op pm_M0 (pc' := 2033) (st' := [.int 1, .ref 0, .ref 41, .int (-1)]) (pm_q0_26 (Nat.le_of_ble_eq_true rfl)) rfl rfl ?_
        refine pm_R_iald pm_M0 (pc' := 2034) (v := x1) (pm_q0_26 (Nat.le_of_ble_eq_true rfl)) (hh 0 (Nat.le_of_ble_eq_true rfl)) (Nat.le_of_ble_eq_true rfl) rfl hx1 rfl ?_
        refine pm_R_lo pm_M0 (pc' := 2035) (pm_q0_26 (Nat.le_of_ble_eq_true rfl)) rfl rfl ?_
        refine pm_R_lo pm_M0 (pc' := 2036) (pm_q0_26 (Nat.le_of_ble_eq_true rfl)) rfl rfl ?_
        refine pm_R_op pm_M0 (pc' := 2037) (st' := [.int 2, .int 0, .ref 0, .int x1, .ref 41, .int (-1)]) (pm_q0_26 (Nat.le_of_ble_eq_true rfl)) rfl rfl ?_
        refine pm_R_op pm_M0 (pc' := 2038) (st' := [.int 2, .ref 0, .int x1, .ref 41, .int (-1)]) (pm_q0_26 (Nat.le_of_ble_eq_true rfl)) rfl rfl ?_
        refine pm_R_iald pm_M0 (pc' := 2039) (v := x2) (pm_q0_26 (Nat.le_of_ble_eq_true rfl)) (hh 0 (Nat.le_of_ble_eq_true rfl)) (Nat.le_of_ble_eq_true rfl) rfl hx2 rfl ?_
        refine pm_R_lo pm_M0 (pc' := 2040) (pm_q0_26 (Nat.le_of_ble_eq_true rfl)) rfl rfl ?_
        refine pm_R_lo pm_M0 (pc' := 2041) (pm_q0_26 (Nat.le_of_ble_eq_true rfl)) rfl rfl ?_
        refine pm_R_op pm_M0 (pc' := 2042) (st' := [.int 3, .int 0, .ref 0, .int x2, .int x1, .ref 41, .int (-1)]) (pm_q0_26 (Nat.le_of_ble_eq_true rfl)) rfl rfl ?_
        refine pm_R_op pm_M0 (pc' := 2043) (st' := [.int 3, .ref 0, .int x2, .int x1, .ref 41, .int (-1)]) (pm_q0_26 (Nat.le_of_ble_eq_true rfl)) rfl rfl ?_
        refine pm_R_iald pm_M0 (pc' := 2044) (v := x3) (pm_q0_26 (Nat.le_of_ble_eq_true rfl)) (hh 0 (Nat.le_of_ble_eq_true rfl)) (Nat.le_of_ble_eq_true rfl) rfl hx3 rfl ?_
        refine pm_R_cv pm_M0 (pc' := 2047) (a := 41) (ra := [.int x3, .int x2, .int x1]) (rest := [.int (-1)]) (ls' := [.ref 41, .int x1, .int x2, .int x3, pm_no, pm_no]) (pm_q0_26 (Nat.le_of_ble_eq_true rfl)) rfl (Or.inl rfl) pm_M293 (hh 41 (Nat.le_of_ble_eq_true rfl)) rfl (Nat.le_of_ble_eq_true rfl) (Nat.le_of_ble_eq_true rfl) rfl rfl (Nat.le_of_ble_eq_true rfl) rfl rfl ?_
        refine pm_R_lo pm_M293 (pc' := 1) rfl rfl rfl ?_
        refine pm_R_op pm_M293 (pc' := 2) (st' := [.int 0, .ref 41]) rfl rfl rfl ?_
        refine pm_R_put pm_M293 (pc' := 5) (fs' := [.int 0, .ref 42, .ref 43, .ref 44, .ref 45, .ref 46, .ref 47, .ref 48, .ref 49, .ref 50, .int 0, .int 0, .int 0, .int 0, .int 0, .long 0, .int 0, .int 0, .int 0, .ref 51, .ref 52, .int 0, .int 0, .int 0, .int 0, .ref 53, .int 0, .int 0, .ref 54, .ref 55, .ref 56, .int 0, .ref 57, .ref 58, .ref 59, .ref 60, .ref 61, .ref 62, .ref 63, .ref 64, .ref 65, .ref 66, .int 0, .int 0, .int 0, .ref 67, .ref 68, .int 0, .ref 69, .int 0, .int 0, .ref 70, .ref 71]) rfl rfl rfl (hh 41 (Nat.le_of_ble_eq_true rfl)) (Nat.le_of_ble_eq_true rfl) (Nat.le_of_ble_eq_true rfl) (Nat.le_of_ble_eq_true rfl) rfl (Or.inl rfl) rfl rfl ?_
        refine pm_R_lo pm_M293 (pc' := 6) rfl rfl rfl ?_
        refine pm_R_lo pm_M293 (pc' := 7) rfl rfl rfl ?_
        refine pm_R_lo pm_M293 (pc' := 8) rfl rfl rfl ?_
        refine pm_R_cv pm_M293 (pc' := 11) (a := 41) (ra := [.int x2, .int x1]) (rest := []) (ls' := [.ref 41, .int x1, .int x2]) rfl rfl (Or.inl rfl) pm_M200 rfl rfl (Nat.le_of_ble_eq_true rfl) (Nat.le_of_ble_eq_true rfl) rfl rfl (Nat.le_of_ble_eq_true rfl) rfl rfl ?_
        refine pm_R_lo pm_M200 (pc' := 1) rfl rfl rfl ?_
        refine pm_R_op pm_M200 (pc' := 2) (st' := [.int 0, .ref 41]) rfl rfl rfl ?_
        refine pm_R_lo pm_M200 (pc' := 3) rfl rfl rfl ?_
        refine pm_R_cv pm_M200 (pc' := 6) (a := 41) (ra := [.int x1, .int 0]) (rest := []) (ls' := [.ref 41, .int 0, .int x1]) rfl rfl (Or.inl rfl) pm_M177 rfl rfl (Nat.le_of_ble_eq_true rfl) (Nat.le_of_ble_eq_true rfl) rfl rfl (Nat.le_of_ble_eq_true rfl) rfl rfl ?_
        refine pm_R_lo pm_M177 (pc' := 1) rfl rfl rfl ?_
        refine pm_R_op pm_M177 (pc' := 2) (st' := [.int 0, .int x1]) rfl rfl rfl ?_
        refine pm_R_lo pm_M177 (pc' := 3) rfl rfl rfl ?_
        refine pm_R_get pm_M177 (pc' := 6) (v := .ref 46) rfl rfl rfl (Nat.le_of_ble_eq_true rfl) (Nat.le_of_ble_eq_true rfl) rfl rfl ?_
        refine pm_R_lo pm_M177 (pc' := 7) rfl rfl rfl ?_
        refine pm_R_iald pm_M177 (pc' := 8) (v := 0) rfl (hh 46 (Nat.le_of_ble_eq_true rfl)) (Nat.le_of_ble_eq_true rfl) rfl rfl rfl ?_
        refine pm_R_op pm_M177 (pc' := 9) (st' := [.int 1, .int 0, .int 0, .int x1]) rfl rfl rfl ?_
        refine pm_R_op pm_M177 (pc' := 10) (st' := [.int (-1), .int 0, .int x1]) rfl rfl rfl ?_
        refine pm_R_cs pm_M177 (pc' := 13) (ra := [.int (-1), .int 0, .int x1]) (rest := []) (ls' := [.int x1, .int 0, .int (-1)]) rfl rfl (Or.inl rfl) pm_M174 rfl rfl (Nat.le_of_ble_eq_true rfl) rfl rfl ?_
        refine pm_R_lo pm_M174 (pc' := 1) rfl rfl rfl ?_
        refine pm_R_lo pm_M174 (pc' := 2) rfl rfl rfl ?_
        refine pm_R_icmp pm_M174 (t := 14) (pc' := 5) rfl rfl rfl (fun c_22 => by exact absurd c_22 c_1) (fun c_22 => ?_)
        refine pm_R_lo pm_M174 (pc' := 6) rfl rfl rfl ?_
        refine pm_R_lo pm_M174 (pc' := 7) rfl rfl rfl ?_
        refine pm_R_icmp pm_M174 (t := 14) (pc' := 10) rfl rfl rfl (fun c_23 => ?_) (fun c_23 => by have z0 : ((-1) : Int32).toInt = -1 := (by decide); have z1 : ((0) : Int32).toInt = 0 := (by decide); have q0 := (Int32.le_iff_toInt_le.mp (Int32.not_lt.mp c_1)); have q1 := (Int32.le_iff_toInt_le.mp (Int32.not_lt.mp c_23)); exfalso; omega)
        refine pm_R_op pm_M174 (pc' := 15) (st' := [.int 0]) rfl rfl rfl ?_
        refine pm_R_ret pm_M174 (r := some (.int 0)) rfl rfl ?_
        show pm_R _ 177 13 [.ref 41, .int 0, .int x1] [.int 0] _ _
        refine pm_R_ret pm_M177 (r := some (.int 0)) rfl rfl ?_
        show pm_R _ 200 6 [.ref 41, .int x1, .int x2] [.int 0] _ _
        refine pm_R_br pm_M200 (pc' := 18) (st' := []) rfl rfl ?_
        refine pm_R_op pm_M200 (pc' := 19) (st' := [.int 0]) rfl rfl rfl ?_
        refine pm_R_ret pm_M200 (r := some (.int 0)) rfl rfl ?_
        show pm_R _ 293 11 [.ref 41, .int x1, .int x2, .int x3, pm_no, pm_no] [.int 0] _ _
        refine pm_R_br pm_M293 (pc' := 23) (st' := []) rfl rfl ?_
        refine pm_R_op pm_M293 (pc' := 24) (st' := [.int (-1)]) rfl rfl rfl ?_
        refine pm_R_ret pm_M293 (r := some (.int (-1))) rfl rfl ?_
        show pm_R _ 0 2047 [.ref 0, .ref 16, .ref 41, .int 0] [.int (-1), .int (-1)] _ _
        refine pm_R_br pm_M0 (pc' := 2121) (st' := []) (pm_q0_26 (Nat.le_of_ble_eq_true rfl)) rfl ?_
        exact p1_tail (hh 0 (Nat.le_of_ble_eq_true rfl)) (Nat.le_of_ble_eq_true rfl) (Nat.le_of_ble_eq_true rfl) (Nat.le_of_ble_eq_true rfl)
      · refine pm_R_lo pm_M66 (pc' := 5) rfl rfl rfl ?_
        refine pm_R_lo pm_M66 (pc' := 6) rfl rfl rfl ?_
        refine pm_R_get pm_M66 (pc' := 9) (v := .ref 17) rfl rfl (hh 16 (Nat.le_of_ble_eq_true rfl)) (Nat.le_of_ble_eq_true rfl) (Nat.le_of_ble_eq_true rfl) rfl rfl ?_
        refine pm_R_get pm_M66 (pc' := 12) (v := .ref 23) rfl rfl (hh 17 (Nat.le_of_ble_eq_true rfl)) (Nat.le_of_ble_eq_true rfl) (Nat.le_of_ble_eq_true rfl) rfl rfl ?_
        refine pm_R_op pm_M66 (pc' := 13) (st' := [.int 1, .ref 23, .int x3]) rfl rfl rfl ?_
        refine pm_R_iald pm_M66 (pc' := 14) (v := 0) rfl (hh 23 (Nat.le_of_ble_eq_true rfl)) (Nat.le_of_ble_eq_true rfl) rfl rfl rfl ?_
        refine pm_R_icmp pm_M66 (t := 21) (pc' := 17) rfl rfl rfl (fun c_24 => by exact absurd c_24 c_21) (fun c_24 => ?_)
        refine pm_R_op pm_M66 (pc' := 18) (st' := [.null]) rfl rfl rfl ?_
        refine pm_R_br pm_M66 (pc' := 30) rfl rfl ?_
        refine pm_R_ret pm_M66 (r := some (.null)) rfl rfl ?_
        show pm_R _ 111 19 [.ref 16, .int x1, .int x2, .int x3, .null, .null, pm_no] [.null] _ _
        refine pm_R_lo pm_M111 (pc' := 21) (ls' := [.ref 16, .int x1, .int x2, .int x3, .null, .null, .null]) (st' := []) rfl rfl rfl ?_
        refine pm_R_lo pm_M111 (pc' := 23) rfl rfl rfl ?_
        refine pm_R_br pm_M111 (pc' := 36) rfl rfl ?_
        refine pm_R_op pm_M111 (pc' := 37) (st' := [.int (-1)]) rfl rfl rfl ?_
        refine pm_R_ret pm_M111 (r := some (.int (-1))) rfl rfl ?_
        show pm_R _ 0 2028 [.ref 0, .ref 16, .ref 41, .int 0] [.int (-1)] _ _
        refine pm_R_lo pm_M0 (pc' := 2029) (pm_q0_26 (Nat.le_of_ble_eq_true rfl)) rfl rfl ?_
        refine pm_R_lo pm_M0 (pc' := 2030) (pm_q0_26 (Nat.le_of_ble_eq_true rfl)) rfl rfl ?_
        refine pm_R_lo pm_M0 (pc' := 2031) (pm_q0_26 (Nat.le_of_ble_eq_true rfl)) rfl rfl ?_
        refine pm_R_op pm_M0 (pc' := 2032) (st' := [.int 1, .int 0, .ref 0, .ref 41, .int (-1)]) (pm_q0_26 (Nat.le_of_ble_eq_true rfl)) rfl rfl ?_
        refine pm_R_op pm_M0 (pc' := 2033) (st' := [.int 1, .ref 0, .ref 41, .int (-1)]) (pm_q0_26 (Nat.le_of_ble_eq_true rfl)) rfl rfl ?_
        refine pm_R_iald pm_M0 (pc' := 2034) (v := x1) (pm_q0_26 (Nat.le_of_ble_eq_true rfl)) (hh 0 (Nat.le_of_ble_eq_true rfl)) (Nat.le_of_ble_eq_true rfl) rfl hx1 rfl ?_
        refine pm_R_lo pm_M0 (pc' := 2035) (pm_q0_26 (Nat.le_of_ble_eq_true rfl)) rfl rfl ?_
        refine pm_R_lo pm_M0 (pc' := 2036) (pm_q0_26 (Nat.le_of_ble_eq_true rfl)) rfl rfl ?_
        refine pm_R_op pm_M0 (pc' := 2037) (st' := [.int 2, .int 0, .ref 0, .int x1, .ref 41, .int (-1)]) (pm_q0_26 (Nat.le_of_ble_eq_true rfl)) rfl rfl ?_
        refine pm_R_op pm_M0 (pc' := 2038) (st' := [.int 2, .ref 0, .int x1, .ref 41, .int (-1)]) (pm_q0_26 (Nat.le_of_ble_eq_true rfl)) rfl rfl ?_
        refine pm_R_iald pm_M0 (pc' := 2039) (v := x2) (pm_q0_26 (Nat.le_of_ble_eq_true rfl)) (hh 0 (Nat.le_of_ble_eq_true rfl)) (Nat.le_of_ble_eq_true rfl) rfl hx2 rfl ?_
        refine pm_R_lo pm_M0 (pc' := 2040) (pm_q0_26 (Nat.le_of_ble_eq_true rfl)) rfl rfl ?_
        refine pm_R_lo pm_M0 (pc' := 2041) (pm_q0_26 (Nat.le_of_ble_eq_true rfl)) rfl rfl ?_
        refine pm_R_op pm_M0 (pc' := 2042) (st' := [.int 3, .int 0, .ref 0, .int x2, .int x1, .ref 41, .int (-1)]) (pm_q0_26 (Nat.le_of_ble_eq_true rfl)) rfl rfl ?_
        refine pm_R_op pm_M0 (pc' := 2043) (st' := [.int 3, .ref 0, .int x2, .int x1, .ref 41, .int (-1)]) (pm_q0_26 (Nat.le_of_ble_eq_true rfl)) rfl rfl ?_
        refine pm_R_iald pm_M0 (pc' := 2044) (v := x3) (pm_q0_26 (Nat.le_of_ble_eq_true rfl)) (hh 0 (Nat.le_of_ble_eq_true rfl)) (Nat.le_of_ble_eq_true rfl) rfl hx3 rfl ?_
        refine pm_R_cv pm_M0 (pc' := 2047) (a := 41) (ra := [.int x3, .int x2, .int x1]) (rest := [.int (-1)]) (ls' := [.ref 41, .int x1, .int x2, .int x3, pm_no, pm_no]) (pm_q0_26 (Nat.le_of_ble_eq_true rfl)) rfl (Or.inl rfl) pm_M293 (hh 41 (Nat.le_of_ble_eq_true rfl)) rfl (Nat.le_of_ble_eq_true rfl) (Nat.le_of_ble_eq_true rfl) rfl rfl (Nat.le_of_ble_eq_true rfl) rfl rfl ?_
        refine pm_R_lo pm_M293 (pc' := 1) rfl rfl rfl ?_
        refine pm_R_op pm_M293 (pc' := 2) (st' := [.int 0, .ref 41]) rfl rfl rfl ?_
        refine pm_R_put pm_M293 (pc' := 5) (fs' := [.int 0, .ref 42, .ref 43, .ref 44, .ref 45, .ref 46, .ref 47, .ref 48, .ref 49, .ref 50, .int 0, .int 0, .int 0, .int 0, .int 0, .long 0, .int 0, .int 0, .int 0, .ref 51, .ref 52, .int 0, .int 0, .int 0, .int 0, .ref 53, .int 0, .int 0, .ref 54, .ref 55, .ref 56, .int 0, .ref 57, .ref 58, .ref 59, .ref 60, .ref 61, .ref 62, .ref 63, .ref 64, .ref 65, .ref 66, .int 0, .int 0, .int 0, .ref 67, .ref 68, .int 0, .ref 69, .int 0, .int 0, .ref 70, .ref 71]) rfl rfl rfl (hh 41 (Nat.le_of_ble_eq_true rfl)) (Nat.le_of_ble_eq_true rfl) (Nat.le_of_ble_eq_true rfl) (Nat.le_of_ble_eq_true rfl) rfl (Or.inl rfl) rfl rfl ?_
        refine pm_R_lo pm_M293 (pc' := 6) rfl rfl rfl ?_
        refine pm_R_lo pm_M293 (pc' := 7) rfl rfl rfl ?_
        refine pm_R_lo pm_M293 (pc' := 8) rfl rfl rfl ?_
        refine pm_R_cv pm_M293 (pc' := 11) (a := 41) (ra := [.int x2, .int x1]) (rest := []) (ls' := [.ref 41, .int x1, .int x2]) rfl rfl (Or.inl rfl) pm_M200 rfl rfl (Nat.le_of_ble_eq_true rfl) (Nat.le_of_ble_eq_true rfl) rfl rfl (Nat.le_of_ble_eq_true rfl) rfl rfl ?_
        refine pm_R_lo pm_M200 (pc' := 1) rfl rfl rfl ?_
        refine pm_R_op pm_M200 (pc' := 2) (st' := [.int 0, .ref 41]) rfl rfl rfl ?_
        refine pm_R_lo pm_M200 (pc' := 3) rfl rfl rfl ?_
        refine pm_R_cv pm_M200 (pc' := 6) (a := 41) (ra := [.int x1, .int 0]) (rest := []) (ls' := [.ref 41, .int 0, .int x1]) rfl rfl (Or.inl rfl) pm_M177 rfl rfl (Nat.le_of_ble_eq_true rfl) (Nat.le_of_ble_eq_true rfl) rfl rfl (Nat.le_of_ble_eq_true rfl) rfl rfl ?_
        refine pm_R_lo pm_M177 (pc' := 1) rfl rfl rfl ?_
        refine pm_R_op pm_M177 (pc' := 2) (st' := [.int 0, .int x1]) rfl rfl rfl ?_
        refine pm_R_lo pm_M177 (pc' := 3) rfl rfl rfl ?_
        refine pm_R_get pm_M177 (pc' := 6) (v := .ref 46) rfl rfl rfl (Nat.le_of_ble_eq_true rfl) (Nat.le_of_ble_eq_true rfl) rfl rfl ?_
        refine pm_R_lo pm_M177 (pc' := 7) rfl rfl rfl ?_
        refine pm_R_iald pm_M177 (pc' := 8) (v := 0) rfl (hh 46 (Nat.le_of_ble_eq_true rfl)) (Nat.le_of_ble_eq_true rfl) rfl rfl rfl ?_
        refine pm_R_op pm_M177 (pc' := 9) (st' := [.int 1, .int 0, .int 0, .int x1]) rfl rfl rfl ?_
        refine pm_R_op pm_M177 (pc' := 10) (st' := [.int (-1), .int 0, .int x1]) rfl rfl rfl ?_
        refine pm_R_cs pm_M177 (pc' := 13) (ra := [.int (-1), .int 0, .int x1]) (rest := []) (ls' := [.int x1, .int 0, .int (-1)]) rfl rfl (Or.inl rfl) pm_M174 rfl rfl (Nat.le_of_ble_eq_true rfl) rfl rfl ?_
        refine pm_R_lo pm_M174 (pc' := 1) rfl rfl rfl ?_
        refine pm_R_lo pm_M174 (pc' := 2) rfl rfl rfl ?_
        refine pm_R_icmp pm_M174 (t := 14) (pc' := 5) rfl rfl rfl (fun c_25 => by exact absurd c_25 c_1) (fun c_25 => ?_)
        refine pm_R_lo pm_M174 (pc' := 6) rfl rfl rfl ?_
        refine pm_R_lo pm_M174 (pc' := 7) rfl rfl rfl ?_
        refine pm_R_icmp pm_M174 (t := 14) (pc' := 10) rfl rfl rfl (fun c_26 => ?_) (fun c_26 => by have z0 : ((-1) : Int32).toInt = -1 := (by decide); have z1 : ((0) : Int32).toInt = 0 := (by decide); have q0 := (Int32.le_iff_toInt_le.mp (Int32.not_lt.mp c_1)); have q1 := (Int32.le_iff_toInt_le.mp (Int32.not_lt.mp c_26)); exfalso; omega)
        refine pm_R_op pm_M174 (pc' := 15) (st' := [.int 0]) rfl rfl rfl ?_
        refine pm_R_ret pm_M174 (r := some (.int 0)) rfl rfl ?_
        show pm_R _ 177 13 [.ref 41, .int 0, .int x1] [.int 0] _ _
        refine pm_R_ret pm_M177 (r := some (.int 0)) rfl rfl ?_
        show pm_R _ 200 6 [.ref 41, .int x1, .int x2] [.int 0] _ _
        refine pm_R_br pm_M200 (pc' := 18) (st' := []) rfl rfl ?_
        refine pm_R_op pm_M200 (pc' := 19) (st' := [.int 0]) rfl rfl rfl ?_
        refine pm_R_ret pm_M200 (r := some (.int 0)) rfl rfl ?_
        show pm_R _ 293 11 [.ref 41, .int x1, .int x2, .int x3, pm_no, pm_no] [.int 0] _ _
        refine pm_R_br pm_M293 (pc' := 23) (st' := []) rfl rfl ?_
        refine pm_R_op pm_M293 (pc' := 24) (st' := [.int (-1)]) rfl rfl rfl ?_
        refine pm_R_ret pm_M293 (r := some (.int (-1))) rfl rfl ?_
        show pm_R _ 0 2047 [.ref 0, .ref 16, .ref 41, .int 0] [.int (-1), .int (-1)] _ _
        refine pm_R_br pm_M0 (pc' := 2121) (st' := []) (pm_q0_26 (Nat.le_of_ble_eq_true rfl)) rfl ?_
        exact p1_tail (hh 0 (Nat.le_of_ble_eq_true rfl)) (Nat.le_of_ble_eq_true rfl) (Nat.le_of_ble_eq_true rfl) (Nat.le_of_ble_eq_true rfl)
