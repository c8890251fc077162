set_option maxRecDepth 100000 in
theorem p1_dflt (xs : Nat → Int32) (f : Nat → pm_E) (hh : ∀ i, i < 72 → f i = pm_fF 7 xs i) : pm_R 100 0 2121 [.ref 0, .ref 16, .ref 41, .int 0] [] (72, 52657, f) p1_Q :=
  p1_tail (hh 0 (Nat.le_of_ble_eq_true rfl)) (Nat.le_of_ble_eq_true rfl) (Nat.le_of_ble_eq_true rfl) (Nat.le_of_ble_eq_true rfl)
theorem p1_c2 (xs : Nat → Int32) (f : Nat → pm_E) (hh : ∀ i, i < 72 → f i = pm_fF 7 xs i) : pm_R 100 0 306 [.ref 0, .ref 16, .ref 41, .int 0] [] (72, 52657, f) p1_Q := by
  rcases pk_ix (xs 1) (n := 4) (by decide) with hv | hv | ⟨k, hk, hv⟩
  · exact p1_c2_lo xs f hh _ _ _ _ _ _ _ rfl rfl rfl rfl rfl rfl rfl hv
  · exact p1_c2_hi xs f hh _ _ _ _ _ _ _ rfl rfl rfl rfl rfl rfl rfl hv
  · match k, hk, hv with
    | 0, _, hv => exact p1_c2_eq0 xs f hh _ _ _ _ _ _ _ rfl rfl rfl rfl rfl rfl rfl hv
    | 1, _, hv => exact p1_c2_eq1 xs f hh _ _ _ _ _ _ _ rfl rfl rfl rfl rfl rfl rfl hv
    | 2, _, hv => exact p1_c2_eq2 xs f hh _ _ _ _ _ _ _ rfl rfl rfl rfl rfl rfl rfl hv
    | 3, _, hv => exact p1_c2_eq3 xs f hh _ _ _ _ _ _ _ rfl rfl rfl rfl rfl rfl rfl hv
    | m + 4, h, _ => exact absurd h (by omega)
theorem p1_c40 (xs : Nat → Int32) (f : Nat → pm_E) (hh : ∀ i, i < 72 → f i = pm_fF 7 xs i) : pm_R 100 0 2052 [.ref 0, .ref 16, .ref 41, .int 0] [] (72, 52657, f) p1_Q := by
  rcases pk_ix (xs 1) (n := 4) (by decide) with hv | hv | ⟨k, hk, hv⟩
  · exact p1_c40_lo xs f hh _ _ _ _ _ _ _ rfl rfl rfl rfl rfl rfl rfl hv
  · exact p1_c40_hi xs f hh _ _ _ _ _ _ _ rfl rfl rfl rfl rfl rfl rfl hv
  · match k, hk, hv with
    | 0, _, hv => exact p1_c40_eq0 xs f hh _ _ _ _ _ _ _ rfl rfl rfl rfl rfl rfl rfl hv
    | 1, _, hv => exact p1_c40_eq1 xs f hh _ _ _ _ _ _ _ rfl rfl rfl rfl rfl rfl rfl hv
    | 2, _, hv => exact p1_c40_eq2 xs f hh _ _ _ _ _ _ _ rfl rfl rfl rfl rfl rfl rfl hv
    | 3, _, hv => exact p1_c40_eq3 xs f hh _ _ _ _ _ _ _ rfl rfl rfl rfl rfl rfl rfl hv
    | m + 4, h, _ => exact absurd h (by omega)
theorem p1_c41 (xs : Nat → Int32) (f : Nat → pm_E) (hh : ∀ i, i < 72 → f i = pm_fF 7 xs i) : pm_R 100 0 2075 [.ref 0, .ref 16, .ref 41, .int 0] [] (72, 52657, f) p1_Q := by
  rcases pk_ix (xs 1) (n := 3) (by decide) with hv | hv | ⟨k, hk, hv⟩
  · exact p1_c41_lo xs f hh _ _ _ _ _ _ _ rfl rfl rfl rfl rfl rfl rfl hv
  · exact p1_c41_hi xs f hh _ _ _ _ _ _ _ rfl rfl rfl rfl rfl rfl rfl hv
  · match k, hk, hv with
    | 0, _, hv => exact p1_c41_eq0 xs f hh _ _ _ _ _ _ _ rfl rfl rfl rfl rfl rfl rfl hv
    | 1, _, hv => exact p1_c41_eq1 xs f hh _ _ _ _ _ _ _ rfl rfl rfl rfl rfl rfl rfl hv
    | 2, _, hv => exact p1_c41_eq2 xs f hh _ _ _ _ _ _ _ rfl rfl rfl rfl rfl rfl rfl hv
    | m + 3, h, _ => exact absurd h (by omega)
theorem p1_c42 (xs : Nat → Int32) (f : Nat → pm_E) (hh : ∀ i, i < 72 → f i = pm_fF 7 xs i) : pm_R 100 0 2098 [.ref 0, .ref 16, .ref 41, .int 0] [] (72, 52657, f) p1_Q := by
  rcases pk_ix (xs 1) (n := 3) (by decide) with hv | hv | ⟨k, hk, hv⟩
  · exact p1_c42_lo xs f hh _ _ _ _ _ _ _ rfl rfl rfl rfl rfl rfl rfl hv
  · exact p1_c42_hi xs f hh _ _ _ _ _ _ _ rfl rfl rfl rfl rfl rfl rfl hv
  · match k, hk, hv with
    | 0, _, hv => exact p1_c42_eq0 xs f hh _ _ _ _ _ _ _ rfl rfl rfl rfl rfl rfl rfl hv
    | 1, _, hv => exact p1_c42_eq1 xs f hh _ _ _ _ _ _ _ rfl rfl rfl rfl rfl rfl rfl hv
    | 2, _, hv => exact p1_c42_eq2 xs f hh _ _ _ _ _ _ _ rfl rfl rfl rfl rfl rfl rfl hv
    | m + 3, h, _ => exact absurd h (by omega)
set_option maxRecDepth 100000 in
set_option maxHeartbeats 4000000 in
theorem p1_sw (xs : Nat → Int32) (f : Nat → pm_E) (hh : ∀ i, i < 72 → f i = pm_fF 7 xs i) : pm_R 100 0 33 [.ref 0, .ref 16, .ref 41, .int 0] [.int (xs 0 &&& 63)] (72, 52657, f) p1_Q := by
  obtain ⟨j, hj, e⟩ := pk_andE (xs 0) (m := 63) 6 (by decide)
  rw [e]
  match j, hj with
  | 0, _ => exact pm_R_br pm_M0 (pc' := 220) (st' := []) rfl rfl (p1_c0 xs f hh _ _ _ _ _ _ _ rfl rfl rfl rfl rfl rfl rfl)
  | 1, _ => exact pm_R_br pm_M0 (pc' := 283) (st' := []) rfl rfl (p1_c1 xs f hh _ _ _ _ _ _ _ rfl rfl rfl rfl rfl rfl rfl)
  | 2, _ => exact pm_R_br pm_M0 (pc' := 306) (st' := []) rfl rfl (p1_c2 xs f hh)
  | 3, _ => exact pm_R_br pm_M0 (pc' := 339) (st' := []) rfl rfl (p1_c3 xs f hh _ _ _ _ _ _ _ rfl rfl rfl rfl rfl rfl rfl)
  | 4, _ => exact pm_R_br pm_M0 (pc' := 362) (st' := []) rfl rfl (p1_c4 xs f hh _ _ _ _ _ _ _ rfl rfl rfl rfl rfl rfl rfl)
  | 5, _ => exact pm_R_br pm_M0 (pc' := 395) (st' := []) rfl rfl (p1_c5 xs f hh _ _ _ _ _ _ _ rfl rfl rfl rfl rfl rfl rfl)
  | 6, _ => exact pm_R_br pm_M0 (pc' := 438) (st' := []) rfl rfl (p1_c6 xs f hh _ _ _ _ _ _ _ rfl rfl rfl rfl rfl rfl rfl)
  | 7, _ => exact pm_R_br pm_M0 (pc' := 481) (st' := []) rfl rfl (p1_c7 xs f hh _ _ _ _ _ _ _ rfl rfl rfl rfl rfl rfl rfl)
  | 8, _ => exact pm_R_br pm_M0 (pc' := 514) (st' := []) rfl rfl (p1_c8 xs f hh _ _ _ _ _ _ _ rfl rfl rfl rfl rfl rfl rfl)
  | 9, _ => exact pm_R_br pm_M0 (pc' := 578) (st' := []) rfl rfl (p1_c9 xs f hh _ _ _ _ _ _ _ rfl rfl rfl rfl rfl rfl rfl)
  | 10, _ => exact pm_R_br pm_M0 (pc' := 621) (st' := []) rfl rfl (p1_c10 xs f hh _ _ _ _ _ _ _ rfl rfl rfl rfl rfl rfl rfl)
  | 11, _ => exact pm_R_br pm_M0 (pc' := 665) (st' := []) rfl rfl (p1_c11 xs f hh _ _ _ _ _ _ _ rfl rfl rfl rfl rfl rfl rfl)
  | 12, _ => exact pm_R_br pm_M0 (pc' := 748) (st' := []) rfl rfl (p1_c12 xs f hh _ _ _ _ _ _ _ rfl rfl rfl rfl rfl rfl rfl)
  | 13, _ => exact pm_R_br pm_M0 (pc' := 801) (st' := []) rfl rfl (p1_c13 xs f hh _ _ _ _ _ _ _ rfl rfl rfl rfl rfl rfl rfl)
  | 14, _ => exact pm_R_br pm_M0 (pc' := 845) (st' := []) rfl rfl (p1_c14 xs f hh _ _ _ _ _ _ _ rfl rfl rfl rfl rfl rfl rfl)
  | 15, _ => exact pm_R_br pm_M0 (pc' := 878) (st' := []) rfl rfl (p1_c15 xs f hh _ _ _ _ _ _ _ rfl rfl rfl rfl rfl rfl rfl)
  | 16, _ => exact pm_R_br pm_M0 (pc' := 931) (st' := []) rfl rfl (p1_c16 xs f hh _ _ _ _ _ _ _ rfl rfl rfl rfl rfl rfl rfl)
  | 17, _ => exact pm_R_br pm_M0 (pc' := 974) (st' := []) rfl rfl (p1_c17 xs f hh _ _ _ _ _ _ _ rfl rfl rfl rfl rfl rfl rfl)
  | 18, _ => exact pm_R_br pm_M0 (pc' := 1017) (st' := []) rfl rfl (p1_c18 xs f hh _ _ _ _ _ _ _ rfl rfl rfl rfl rfl rfl rfl)
  | 19, _ => exact pm_R_br pm_M0 (pc' := 1050) (st' := []) rfl rfl (p1_c19 xs f hh _ _ _ _ _ _ _ rfl rfl rfl rfl rfl rfl rfl)
  | 20, _ => exact pm_R_br pm_M0 (pc' := 1093) (st' := []) rfl rfl (p1_c20 xs f hh _ _ _ _ _ _ _ rfl rfl rfl rfl rfl rfl rfl)
  | 21, _ => exact pm_R_br pm_M0 (pc' := 1126) (st' := []) rfl rfl (p1_c21 xs f hh _ _ _ _ _ _ _ rfl rfl rfl rfl rfl rfl rfl)
  | 22, _ => exact pm_R_br pm_M0 (pc' := 1169) (st' := []) rfl rfl (p1_c22 xs f hh _ _ _ _ _ _ _ rfl rfl rfl rfl rfl rfl rfl)
  | 23, _ => exact pm_R_br pm_M0 (pc' := 1212) (st' := []) rfl rfl (p1_c23 xs f hh _ _ _ _ _ _ _ rfl rfl rfl rfl rfl rfl rfl)
  | 24, _ => exact pm_R_br pm_M0 (pc' := 1265) (st' := []) rfl rfl (p1_c24 xs f hh _ _ _ _ _ _ _ rfl rfl rfl rfl rfl rfl rfl)
  | 25, _ => exact pm_R_br pm_M0 (pc' := 1328) (st' := []) rfl rfl (p1_c25 xs f hh _ _ _ _ _ _ _ rfl rfl rfl rfl rfl rfl rfl)
  | 26, _ => exact pm_R_br pm_M0 (pc' := 1371) (st' := []) rfl rfl (p1_c26 xs f hh _ _ _ _ _ _ _ rfl rfl rfl rfl rfl rfl rfl)
  | 27, _ => exact pm_R_br pm_M0 (pc' := 1414) (st' := []) rfl rfl (p1_c27 xs f hh _ _ _ _ _ _ _ rfl rfl rfl rfl rfl rfl rfl)
  | 28, _ => exact pm_R_br pm_M0 (pc' := 1477) (st' := []) rfl rfl (p1_c28 xs f hh _ _ _ _ _ _ _ rfl rfl rfl rfl rfl rfl rfl)
  | 29, _ => exact pm_R_br pm_M0 (pc' := 1536) (st' := []) rfl rfl (p1_c29 xs f hh _ _ _ _ _ _ _ rfl rfl rfl rfl rfl rfl rfl)
  | 30, _ => exact pm_R_br pm_M0 (pc' := 1579) (st' := []) rfl rfl (p1_c30 xs f hh _ _ _ _ _ _ _ rfl rfl rfl rfl rfl rfl rfl)
  | 31, _ => exact pm_R_br pm_M0 (pc' := 1622) (st' := []) rfl rfl (p1_c31 xs f hh _ _ _ _ _ _ _ rfl rfl rfl rfl rfl rfl rfl)
  | 32, _ => exact pm_R_br pm_M0 (pc' := 1665) (st' := []) rfl rfl (p1_c32 xs f hh _ _ _ _ _ _ _ rfl rfl rfl rfl rfl rfl rfl)
  | 33, _ => exact pm_R_br pm_M0 (pc' := 1698) (st' := []) rfl rfl (p1_c33 xs f hh _ _ _ _ _ _ _ rfl rfl rfl rfl rfl rfl rfl)
  | 34, _ => exact pm_R_br pm_M0 (pc' := 1761) (st' := []) rfl rfl (p1_c34 xs f hh _ _ _ _ _ _ _ rfl rfl rfl rfl rfl rfl rfl)
  | 35, _ => exact pm_R_br pm_M0 (pc' := 1805) (st' := []) rfl rfl (p1_c35 xs f hh _ _ _ _ _ _ _ rfl rfl rfl rfl rfl rfl rfl)
  | 36, _ => exact pm_R_br pm_M0 (pc' := 1848) (st' := []) rfl rfl (p1_c36 xs f hh _ _ _ _ _ _ _ rfl rfl rfl rfl rfl rfl rfl)
  | 37, _ => exact pm_R_br pm_M0 (pc' := 1901) (st' := []) rfl rfl (p1_c37 xs f hh _ _ _ _ _ _ _ rfl rfl rfl rfl rfl rfl rfl)
  | 38, _ => exact pm_R_br pm_M0 (pc' := 1976) (st' := []) rfl rfl (p1_c38 xs f hh _ _ _ _ _ _ _ rfl rfl rfl rfl rfl rfl rfl)
  | 39, _ => exact pm_R_br pm_M0 (pc' := 2009) (st' := []) rfl rfl (p1_c39 xs f hh _ _ _ _ _ _ _ rfl rfl rfl rfl rfl rfl rfl)
  | 40, _ => exact pm_R_br pm_M0 (pc' := 2052) (st' := []) rfl rfl (p1_c40 xs f hh)
  | 41, _ => exact pm_R_br pm_M0 (pc' := 2075) (st' := []) rfl rfl (p1_c41 xs f hh)
  | 42, _ => exact pm_R_br pm_M0 (pc' := 2098) (st' := []) rfl rfl (p1_c42 xs f hh)
  | 43, _ => exact pm_R_br pm_M0 (pc' := 2121) (st' := []) rfl rfl (p1_dflt xs f hh)
  | 44, _ => exact pm_R_br pm_M0 (pc' := 2121) (st' := []) rfl rfl (p1_dflt xs f hh)
  | 45, _ => exact pm_R_br pm_M0 (pc' := 2121) (st' := []) rfl rfl (p1_dflt xs f hh)
  | 46, _ => exact pm_R_br pm_M0 (pc' := 2121) (st' := []) rfl rfl (p1_dflt xs f hh)
  | 47, _ => exact pm_R_br pm_M0 (pc' := 2121) (st' := []) rfl rfl (p1_dflt xs f hh)
  | 48, _ => exact pm_R_br pm_M0 (pc' := 2121) (st' := []) rfl rfl (p1_dflt xs f hh)
  | 49, _ => exact pm_R_br pm_M0 (pc' := 2121) (st' := []) rfl rfl (p1_dflt xs f hh)
  | 50, _ => exact pm_R_br pm_M0 (pc' := 2121) (st' := []) rfl rfl (p1_dflt xs f hh)
  | 51, _ => exact pm_R_br pm_M0 (pc' := 2121) (st' := []) rfl rfl (p1_dflt xs f hh)
  | 52, _ => exact pm_R_br pm_M0 (pc' := 2121) (st' := []) rfl rfl (p1_dflt xs f hh)
  | 53, _ => exact pm_R_br pm_M0 (pc' := 2121) (st' := []) rfl rfl (p1_dflt xs f hh)
  | 54, _ => exact pm_R_br pm_M0 (pc' := 2121) (st' := []) rfl rfl (p1_dflt xs f hh)
  | 55, _ => exact pm_R_br pm_M0 (pc' := 2121) (st' := []) rfl rfl (p1_dflt xs f hh)
  | 56, _ => exact pm_R_br pm_M0 (pc' := 2121) (st' := []) rfl rfl (p1_dflt xs f hh)
  | 57, _ => exact pm_R_br pm_M0 (pc' := 2121) (st' := []) rfl rfl (p1_dflt xs f hh)
  | 58, _ => exact pm_R_br pm_M0 (pc' := 2121) (st' := []) rfl rfl (p1_dflt xs f hh)
  | 59, _ => exact pm_R_br pm_M0 (pc' := 2121) (st' := []) rfl rfl (p1_dflt xs f hh)
  | 60, _ => exact pm_R_br pm_M0 (pc' := 2121) (st' := []) rfl rfl (p1_dflt xs f hh)
  | 61, _ => exact pm_R_br pm_M0 (pc' := 2121) (st' := []) rfl rfl (p1_dflt xs f hh)
  | 62, _ => exact pm_R_br pm_M0 (pc' := 2121) (st' := []) rfl rfl (p1_dflt xs f hh)
  | 63, _ => exact pm_R_br pm_M0 (pc' := 2121) (st' := []) rfl rfl (p1_dflt xs f hh)
  | n + 64, h => exact absurd h (by omega)
set_option maxRecDepth 100000 in
theorem p1_at7 (xs : Nat → Int32) (f : Nat → pm_E) (hh : ∀ i, i < 72 → f i = pm_fF 7 xs i) : pm_R 100 0 18 [.ref 0, .ref 16, .ref 41, .int 0] [] (72, 52657, f) p1_Q := by
  refine pm_R_lo pm_M0 (pc' := 19) rfl rfl rfl ?_
  refine pm_R_lo pm_M0 (pc' := 20) rfl rfl rfl ?_
  refine pm_R_alen0 pm_M0 (pc' := 21) (v := 7) rfl (hh 0 (Nat.le_of_ble_eq_true rfl)) (Nat.le_of_ble_eq_true rfl) rfl rfl ?_
  refine pm_R_op pm_M0 (pc' := 23) (st' := [.int 7, .int 7, .int 0]) rfl rfl rfl ?_
  refine pm_R_op pm_M0 (pc' := 24) (st' := [.int 0, .int 0]) rfl rfl rfl ?_
  refine pm_R_br pm_M0 (pc' := 27) (st' := []) rfl rfl ?_
  refine pm_R_lo pm_M0 (pc' := 28) rfl rfl rfl ?_
  refine pm_R_lo pm_M0 (pc' := 29) rfl rfl rfl ?_
  refine pm_R_iald pm_M0 (pc' := 30) (v := (xs 0)) rfl (hh 0 (Nat.le_of_ble_eq_true rfl)) (Nat.le_of_ble_eq_true rfl) rfl rfl rfl ?_
  refine pm_R_op pm_M0 (pc' := 32) (st' := [.int 63, .int (xs 0)]) rfl rfl rfl ?_
  refine pm_R_op pm_M0 (pc' := 33) (st' := [.int ((xs 0) &&& 63)]) rfl rfl rfl ?_
  exact p1_sw xs f hh
set_option maxRecDepth 100000 in
theorem p1_at0 (xs : Nat → Int32) (f : Nat → pm_E) (hh : ∀ i, i < 72 → f i = pm_fF 0 xs i) : pm_R 100 0 18 [.ref 0, .ref 16, .ref 41, .int 0] [] (72, 52657, f) p1_Q := by
  refine pm_R_lo pm_M0 (pc' := 19) rfl rfl rfl ?_
  refine pm_R_lo pm_M0 (pc' := 20) rfl rfl rfl ?_
  refine pm_R_alen0 pm_M0 (pc' := 21) (v := 0) rfl (hh 0 (Nat.le_of_ble_eq_true rfl)) (Nat.le_of_ble_eq_true rfl) rfl rfl ?_
  refine pm_R_op pm_M0 (pc' := 23) (st' := [.int 7, .int 0, .int 0]) rfl rfl rfl ?_
  refine pm_R_op pm_M0 (pc' := 24) (st' := [.int (-7), .int 0]) rfl rfl rfl ?_
  refine pm_R_br pm_M0 (pc' := 2127) (st' := []) rfl rfl ?_
  refine pm_R_op pm_M0 (pc' := 2128) (st' := [.int 1]) (pm_q0_27 (Nat.le_of_ble_eq_true rfl)) rfl rfl ?_
  exact pm_R_ret pm_M0 (r := some (.int 1)) (pm_q0_27 (Nat.le_of_ble_eq_true rfl)) rfl ⟨rfl, Nat.le_of_ble_eq_true rfl, Nat.le_of_ble_eq_true rfl⟩
set_option maxRecDepth 100000 in
theorem p1_at1 (xs : Nat → Int32) (f : Nat → pm_E) (hh : ∀ i, i < 72 → f i = pm_fF 1 xs i) : pm_R 100 0 18 [.ref 0, .ref 16, .ref 41, .int 0] [] (72, 52657, f) p1_Q := by
  refine pm_R_lo pm_M0 (pc' := 19) rfl rfl rfl ?_
  refine pm_R_lo pm_M0 (pc' := 20) rfl rfl rfl ?_
  refine pm_R_alen0 pm_M0 (pc' := 21) (v := 1) rfl (hh 0 (Nat.le_of_ble_eq_true rfl)) (Nat.le_of_ble_eq_true rfl) rfl rfl ?_
  refine pm_R_op pm_M0 (pc' := 23) (st' := [.int 7, .int 1, .int 0]) rfl rfl rfl ?_
  refine pm_R_op pm_M0 (pc' := 24) (st' := [.int (-6), .int 0]) rfl rfl rfl ?_
  refine pm_R_br pm_M0 (pc' := 2127) (st' := []) rfl rfl ?_
  refine pm_R_op pm_M0 (pc' := 2128) (st' := [.int 1]) (pm_q0_27 (Nat.le_of_ble_eq_true rfl)) rfl rfl ?_
  exact pm_R_ret pm_M0 (r := some (.int 1)) (pm_q0_27 (Nat.le_of_ble_eq_true rfl)) rfl ⟨rfl, Nat.le_of_ble_eq_true rfl, Nat.le_of_ble_eq_true rfl⟩
set_option maxRecDepth 100000 in
theorem p1_at2 (xs : Nat → Int32) (f : Nat → pm_E) (hh : ∀ i, i < 72 → f i = pm_fF 2 xs i) : pm_R 100 0 18 [.ref 0, .ref 16, .ref 41, .int 0] [] (72, 52657, f) p1_Q := by
  refine pm_R_lo pm_M0 (pc' := 19) rfl rfl rfl ?_
  refine pm_R_lo pm_M0 (pc' := 20) rfl rfl rfl ?_
  refine pm_R_alen0 pm_M0 (pc' := 21) (v := 2) rfl (hh 0 (Nat.le_of_ble_eq_true rfl)) (Nat.le_of_ble_eq_true rfl) rfl rfl ?_
  refine pm_R_op pm_M0 (pc' := 23) (st' := [.int 7, .int 2, .int 0]) rfl rfl rfl ?_
  refine pm_R_op pm_M0 (pc' := 24) (st' := [.int (-5), .int 0]) rfl rfl rfl ?_
  refine pm_R_br pm_M0 (pc' := 2127) (st' := []) rfl rfl ?_
  refine pm_R_op pm_M0 (pc' := 2128) (st' := [.int 1]) (pm_q0_27 (Nat.le_of_ble_eq_true rfl)) rfl rfl ?_
  exact pm_R_ret pm_M0 (r := some (.int 1)) (pm_q0_27 (Nat.le_of_ble_eq_true rfl)) rfl ⟨rfl, Nat.le_of_ble_eq_true rfl, Nat.le_of_ble_eq_true rfl⟩
set_option maxRecDepth 100000 in
theorem p1_at3 (xs : Nat → Int32) (f : Nat → pm_E) (hh : ∀ i, i < 72 → f i = pm_fF 3 xs i) : pm_R 100 0 18 [.ref 0, .ref 16, .ref 41, .int 0] [] (72, 52657, f) p1_Q := by
  refine pm_R_lo pm_M0 (pc' := 19) rfl rfl rfl ?_
  refine pm_R_lo pm_M0 (pc' := 20) rfl rfl rfl ?_
  refine pm_R_alen0 pm_M0 (pc' := 21) (v := 3) rfl (hh 0 (Nat.le_of_ble_eq_true rfl)) (Nat.le_of_ble_eq_true rfl) rfl rfl ?_
  refine pm_R_op pm_M0 (pc' := 23) (st' := [.int 7, .int 3, .int 0]) rfl rfl rfl ?_
  refine pm_R_op pm_M0 (pc' := 24) (st' := [.int (-4), .int 0]) rfl rfl rfl ?_
  refine pm_R_br pm_M0 (pc' := 2127) (st' := []) rfl rfl ?_
  refine pm_R_op pm_M0 (pc' := 2128) (st' := [.int 1]) (pm_q0_27 (Nat.le_of_ble_eq_true rfl)) rfl rfl ?_
  exact pm_R_ret pm_M0 (r := some (.int 1)) (pm_q0_27 (Nat.le_of_ble_eq_true rfl)) rfl ⟨rfl, Nat.le_of_ble_eq_true rfl, Nat.le_of_ble_eq_true rfl⟩
set_option maxRecDepth 100000 in
theorem p1_at4 (xs : Nat → Int32) (f : Nat → pm_E) (hh : ∀ i, i < 72 → f i = pm_fF 4 xs i) : pm_R 100 0 18 [.ref 0, .ref 16, .ref 41, .int 0] [] (72, 52657, f) p1_Q := by
  refine pm_R_lo pm_M0 (pc' := 19) rfl rfl rfl ?_
  refine pm_R_lo pm_M0 (pc' := 20) rfl rfl rfl ?_
  refine pm_R_alen0 pm_M0 (pc' := 21) (v := 4) rfl (hh 0 (Nat.le_of_ble_eq_true rfl)) (Nat.le_of_ble_eq_true rfl) rfl rfl ?_
  refine pm_R_op pm_M0 (pc' := 23) (st' := [.int 7, .int 4, .int 0]) rfl rfl rfl ?_
  refine pm_R_op pm_M0 (pc' := 24) (st' := [.int (-3), .int 0]) rfl rfl rfl ?_
  refine pm_R_br pm_M0 (pc' := 2127) (st' := []) rfl rfl ?_
  refine pm_R_op pm_M0 (pc' := 2128) (st' := [.int 1]) (pm_q0_27 (Nat.le_of_ble_eq_true rfl)) rfl rfl ?_
  exact pm_R_ret pm_M0 (r := some (.int 1)) (pm_q0_27 (Nat.le_of_ble_eq_true rfl)) rfl ⟨rfl, Nat.le_of_ble_eq_true rfl, Nat.le_of_ble_eq_true rfl⟩
set_option maxRecDepth 100000 in
theorem p1_at5 (xs : Nat → Int32) (f : Nat → pm_E) (hh : ∀ i, i < 72 → f i = pm_fF 5 xs i) : pm_R 100 0 18 [.ref 0, .ref 16, .ref 41, .int 0] [] (72, 52657, f) p1_Q := by
  refine pm_R_lo pm_M0 (pc' := 19) rfl rfl rfl ?_
  refine pm_R_lo pm_M0 (pc' := 20) rfl rfl rfl ?_
  refine pm_R_alen0 pm_M0 (pc' := 21) (v := 5) rfl (hh 0 (Nat.le_of_ble_eq_true rfl)) (Nat.le_of_ble_eq_true rfl) rfl rfl ?_
  refine pm_R_op pm_M0 (pc' := 23) (st' := [.int 7, .int 5, .int 0]) rfl rfl rfl ?_
  refine pm_R_op pm_M0 (pc' := 24) (st' := [.int (-2), .int 0]) rfl rfl rfl ?_
  refine pm_R_br pm_M0 (pc' := 2127) (st' := []) rfl rfl ?_
  refine pm_R_op pm_M0 (pc' := 2128) (st' := [.int 1]) (pm_q0_27 (Nat.le_of_ble_eq_true rfl)) rfl rfl ?_
  exact pm_R_ret pm_M0 (r := some (.int 1)) (pm_q0_27 (Nat.le_of_ble_eq_true rfl)) rfl ⟨rfl, Nat.le_of_ble_eq_true rfl, Nat.le_of_ble_eq_true rfl⟩
set_option maxRecDepth 100000 in
theorem p1_at6 (xs : Nat → Int32) (f : Nat → pm_E) (hh : ∀ i, i < 72 → f i = pm_fF 6 xs i) : pm_R 100 0 18 [.ref 0, .ref 16, .ref 41, .int 0] [] (72, 52657, f) p1_Q := by
  refine pm_R_lo pm_M0 (pc' := 19) rfl rfl rfl ?_
  refine pm_R_lo pm_M0 (pc' := 20) rfl rfl rfl ?_
  refine pm_R_alen0 pm_M0 (pc' := 21) (v := 6) rfl (hh 0 (Nat.le_of_ble_eq_true rfl)) (Nat.le_of_ble_eq_true rfl) rfl rfl ?_
  refine pm_R_op pm_M0 (pc' := 23) (st' := [.int 7, .int 6, .int 0]) rfl rfl rfl ?_
  refine pm_R_op pm_M0 (pc' := 24) (st' := [.int (-1), .int 0]) rfl rfl rfl ?_
  refine pm_R_br pm_M0 (pc' := 2127) (st' := []) rfl rfl ?_
  refine pm_R_op pm_M0 (pc' := 2128) (st' := [.int 1]) (pm_q0_27 (Nat.le_of_ble_eq_true rfl)) rfl rfl ?_
  exact pm_R_ret pm_M0 (r := some (.int 1)) (pm_q0_27 (Nat.le_of_ble_eq_true rfl)) rfl ⟨rfl, Nat.le_of_ble_eq_true rfl, Nat.le_of_ble_eq_true rfl⟩
theorem p1_pure (L : Nat) (xs : Nat → Int32) (hL : L ≤ 7) : pm_R 100 0 0 pm_l0 [] (pm_h0 L xs) p1_Q := by
  refine p1_init L xs p1_Q (fun f hh => ?_)
  match L, hL, hh with
  | 0, _, hh => exact p1_at0 xs f hh
  | 1, _, hh => exact p1_at1 xs f hh
  | 2, _, hh => exact p1_at2 xs f hh
  | 3, _, hh => exact p1_at3 xs f hh
  | 4, _, hh => exact p1_at4 xs f hh
  | 5, _, hh => exact p1_at5 xs f hh
  | 6, _, hh => exact p1_at6 xs f hh
  | 7, _, hh => exact p1_at7 xs f hh
  | n + 8, h, _ => exact absurd h (by omega)
theorem whole_start {p : Program} {e : Env} {s : State} {m : MethodId} {below : List Frame} {meth : Method} {c : Code} (l : Launch) {b L : Nat} {xs : Nat → Int32} (hL : L ≤ 7) (C0 : lw_At p s m meth c b L xs) : W p l e room_1 s m #[Value.ref b] below meth c s.heap [] 0 0 (lw_Z below #[Value.ref b] s) (entryFrame m ([Value.ref b] : List Value).toArray 4) := by
  obtain ⟨n, x, hrun, hx, h1, h2⟩ := p1_pure L xs hL
  have e : x = (some (.int 1), x.2) := by rw [← hx]
  rw [e] at hrun
  exact pm_whole l C0 hrun h1 h2
