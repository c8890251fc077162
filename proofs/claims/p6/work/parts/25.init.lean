/-! p1: the two objects are made (by program: wip/gen/p1gen.py) -/
def pm_fF (fm : Bool) (L : Nat) (xs : Nat → Int32) (i : Nat) : pm_E := match i with
  | 16 => .inr (11, [.ref 17, .ref 24, .ref 25, .ref 31, .ref 33, .null, .ref 37, .ref 38, .ref 39, .ref 40])
  | 17 => .inr (8, [.ref 18, .int 0, .int 0, .int (-1), .ref 19, .ref 20, .ref 21, .ref 22, .ref 23])
  | 18 => .inl (2, 600, .inl (fun _ => 0))
  | 19 => .inl (4, 2, .inr (.inr (.inr (.inr (fun _ => none)))))
  | 20 => .inl (5, 3, .inr (.inr (.inr (.inr (fun _ => none)))))
  | 21 => .inl (6, 2, .inr (.inr (.inr (.inr (fun _ => none)))))
  | 22 => .inl (7, 2, .inr (.inr (.inr (.inr (fun _ => none)))))
  | 23 => .inl (0, 4, .inl (fun _ => 0))
  | 24 => .inl (8, 3, .inr (.inr (.inr (.inr (fun _ => none)))))
  | 25 => .inr (6, [.ref 30, .int 0, .int (-1), .ref 26, .int 0, .ref 27, .int 0, .ref 28, .int 4, .int (-1), .ref 29])
  | 26 => .inl (0, 200, .inl (fun _ => 0))
  | 27 => .inl (0, 64, .inl (fun _ => 0))
  | 28 => .inl (0, 10, .inl (fun _ => 0))
  | 29 => .inl (0, 4, .inl (fun _ => 0))
  | 30 => .inr (7, [.ref 18, .int 0, .int 0, .int 0, .int 0, .int 0])
  | 31 => .inr (2, [.ref 32])
  | 32 => .inl (1, 468, .inr (.inl (fun _ => 0)))
  | 33 => .inr (9, [.ref 34, .ref 35, .int (-1), .int (-1), .ref 36, .null, .null])
  | 34 => .inl (1, 468, .inr (.inl (fun _ => 0)))
  | 35 => .inl (0, 12, .inl (fun _ => 0))
  | 36 => .inl (0, 78, .inl (fun _ => 0))
  | 37 => .inl (9, 2, .inr (.inr (.inr (.inr (fun _ => none)))))
  | 38 => .inl (0, 12, .inl (fun _ => 0))
  | 39 => .inl (0, 50, .inl (fun _ => 0))
  | 40 => .inl (0, 50, .inl (fun _ => 0))
  | 41 => .inr (12, [.int 0, .ref 42, .ref 43, .ref 44, .ref 45, .ref 46, .ref 47, .ref 48, .ref 49, .ref 50, .int 0, .int 0, .int 0, .int 0, .int 0, .long 0, .int 0, .int 0, .int 0, .ref 51, .ref 52, .int 0, .int 0, .int 0, .int 0, .ref 53, .int 0, .int 0, .ref 54, .ref 55, .ref 56, .int 0, .ref 57, .ref 58, .ref 59, .ref 60, .ref 61, .ref 62, .ref 63, .ref 64, .ref 65, .ref 66, .int 0, .int 0, .int 0, .ref 67, .ref 68, .int 0, .ref 69, .int 0, .int 0, .ref 70, .ref 71])
  | 42 => .inl (2, 2400, .inl (fun _ => 0))
  | 43 => .inl (0, 4, .inl (fun _ => 0))
  | 44 => .inl (0, 4, .inl (fun _ => 0))
  | 45 => .inl (0, 4, .inl (upd (fun _ => 0) 0 (-1)))
  | 46 => .inl (0, 16, .inl (fun _ => 0))
  | 47 => .inl (0, 800, .inl (fun _ => 0))
  | 48 => .inl (0, 156, .inl (fun _ => 0))
  | 49 => .inl (0, 1216, .inl (fun _ => 0))
  | 50 => .inl (0, 200, .inl (fun _ => 0))
  | 51 => .inl (0, 152, .inl (fun _ => 0))
  | 52 => .inl (0, 4, .inl (fun _ => 0))
  | 53 => .inl (0, 12, .inl (fun _ => 0))
  | 54 => .inl (1, 864, .inr (.inl (fun _ => 0)))
  | 55 => .inl (1, 864, .inr (.inl (fun _ => 0)))
  | 56 => .inl (1, 43200, .inr (.inl (fun _ => 0)))
  | 57 => .inl (0, 24, .inl (fun _ => 0))
  | 58 => .inl (0, 24, .inl (fun _ => 0))
  | 59 => .inl (0, 24, .inl (fun _ => 0))
  | 60 => .inl (1, 24, .inr (.inl (fun _ => 0)))
  | 61 => .inl (0, 24, .inl (fun _ => 0))
  | 62 => .inl (0, 24, .inl (fun _ => 0))
  | 63 => .inl (0, 24, .inl (fun _ => 0))
  | 64 => .inl (0, 24, .inl (fun _ => 0))
  | 65 => .inl (0, 12, .inl (fun _ => 0))
  | 66 => .inl (0, 5, .inl (fun _ => 0))
  | 67 => .inl (0, 306, .inl (fun _ => 0))
  | 68 => .inl (0, 50, .inl (fun _ => 0))
  | 69 => .inl (0, 50, .inl (fun _ => 0))
  | 70 => .inl (0, 12, .inl (fun _ => 0))
  | 71 => .inl (3, 3, .inl (fun _ => 0))
  | i => pm_f0 fm L xs i
set_option maxRecDepth 100000 in
set_option maxHeartbeats 40000000 in
theorem p1_init (fm : Bool) (L : Nat) (xs : Nat → Int32) (Q : Option Value → pm_H → Prop) (hK : ∀ f : Nat → pm_E, (∀ i, i < 72 → f i = pm_fF fm L xs i) → pm_R 100 0 18 [.ref 0, .ref 16, .ref 41, .int 0] [] (72, 52657, f) Q) : pm_R 100 0 0 pm_l0 [] (pm_h0 fm L xs) Q := by
  show pm_R 100 0 0 [.ref 0, pm_no, pm_no, pm_no] [] (pm_h0 fm L xs) Q
  refine pm_R_new pm_M0 (pc' := 3) (fs := [.null, .null, .null, .null, .null, .null, .null, .null, .null, .null]) rfl rfl rfl rfl rfl ?_
  show pm_R _ 0 3 [.ref 0, pm_no, pm_no, pm_no] [.ref 16] _ _
  refine pm_R_op pm_M0 (pc' := 4) (st' := [.ref 16, .ref 16]) rfl rfl rfl ?_
  refine pm_R_ci pm_M0 (pc' := 7) (a := 16) (ra := []) (rest := [.ref 16]) (ls' := [.ref 16]) rfl rfl (Or.inl rfl) pm_M1 rfl rfl (Nat.le_of_ble_eq_true rfl) rfl rfl ?_
  refine pm_R_lo pm_M1 (pc' := 1) rfl rfl rfl ?_
  refine pm_R_obj pm_M1 (pc' := 4) rfl rfl rfl (Nat.le_of_ble_eq_true rfl) rfl ?_
  refine pm_R_lo pm_M1 (pc' := 5) rfl rfl rfl ?_
  refine pm_R_new pm_M1 (pc' := 8) (fs := [.null, .int 0, .int 0, .int 0, .null, .null, .null, .null, .null]) rfl rfl rfl rfl rfl ?_
  show pm_R _ 1 8 [.ref 16] [.ref 17, .ref 16] _ _
  refine pm_R_op pm_M1 (pc' := 9) (st' := [.ref 17, .ref 17, .ref 16]) rfl rfl rfl ?_
  refine pm_R_ci pm_M1 (pc' := 12) (a := 17) (ra := []) (rest := [.ref 17, .ref 16]) (ls' := [.ref 17]) rfl rfl (Or.inr rfl) pm_M2 rfl rfl (Nat.le_of_ble_eq_true rfl) rfl rfl ?_
  refine pm_R_lo pm_M2 (pc' := 1) rfl rfl rfl ?_
  refine pm_R_obj pm_M2 (pc' := 4) rfl rfl rfl (Nat.le_of_ble_eq_true rfl) rfl ?_
  refine pm_R_lo pm_M2 (pc' := 5) rfl rfl rfl ?_
  refine pm_R_op pm_M2 (pc' := 8) (st' := [.int 600, .ref 17]) rfl rfl rfl ?_
  refine pm_R_newa pm_M2 (pc' := 10) (N := 600) rfl rfl (by decide) rfl (Nat.le_of_ble_eq_true rfl) rfl ?_
  show pm_R _ 2 10 [.ref 17] [.ref 18, .ref 17] _ _
  refine pm_R_put pm_M2 (pc' := 13) (fs' := [.ref 18, .int 0, .int 0, .int 0, .null, .null, .null, .null, .null]) rfl rfl rfl rfl (Nat.le_of_ble_eq_true rfl) (Nat.le_of_ble_eq_true rfl) (Nat.le_of_ble_eq_true rfl) rfl (Or.inr ⟨pm_N2_ini, rfl, rfl⟩) rfl rfl ?_
  refine pm_R_lo pm_M2 (pc' := 14) rfl rfl rfl ?_
  refine pm_R_op pm_M2 (pc' := 15) (st' := [.int 0, .ref 17]) rfl rfl rfl ?_
  refine pm_R_put pm_M2 (pc' := 18) (fs' := [.ref 18, .int 0, .int 0, .int 0, .null, .null, .null, .null, .null]) rfl rfl rfl rfl (Nat.le_of_ble_eq_true rfl) (Nat.le_of_ble_eq_true rfl) (Nat.le_of_ble_eq_true rfl) rfl (Or.inl rfl) rfl rfl ?_
  refine pm_R_lo pm_M2 (pc' := 19) rfl rfl rfl ?_
  refine pm_R_op pm_M2 (pc' := 20) (st' := [.int 0, .ref 17]) rfl rfl rfl ?_
  refine pm_R_put pm_M2 (pc' := 23) (fs' := [.ref 18, .int 0, .int 0, .int 0, .null, .null, .null, .null, .null]) rfl rfl rfl rfl (Nat.le_of_ble_eq_true rfl) (Nat.le_of_ble_eq_true rfl) (Nat.le_of_ble_eq_true rfl) rfl (Or.inl rfl) rfl rfl ?_
  refine pm_R_lo pm_M2 (pc' := 24) rfl rfl rfl ?_
  refine pm_R_op pm_M2 (pc' := 25) (st' := [.int (-1), .ref 17]) rfl rfl rfl ?_
  refine pm_R_put pm_M2 (pc' := 28) (fs' := [.ref 18, .int 0, .int 0, .int (-1), .null, .null, .null, .null, .null]) rfl rfl rfl rfl (Nat.le_of_ble_eq_true rfl) (Nat.le_of_ble_eq_true rfl) (Nat.le_of_ble_eq_true rfl) rfl (Or.inl rfl) rfl rfl ?_
  refine pm_R_lo pm_M2 (pc' := 29) rfl rfl rfl ?_
  refine pm_R_stat pm_M2 (pc' := 32) rfl rfl rfl ?_
  refine pm_R_op pm_M2 (pc' := 33) (st' := [.int 0, .ref 1, .ref 17]) rfl rfl rfl ?_
  refine pm_R_iald pm_M2 (pc' := 34) (v := 2) rfl rfl (Nat.le_of_ble_eq_true rfl) rfl rfl rfl ?_
  refine pm_R_newq pm_M2 (pc' := 37) (N := 2) rfl rfl rfl (by decide) rfl (Nat.le_of_ble_eq_true rfl) rfl ?_
  show pm_R _ 2 37 [.ref 17] [.ref 19, .ref 17] _ _
  refine pm_R_put pm_M2 (pc' := 40) (fs' := [.ref 18, .int 0, .int 0, .int (-1), .ref 19, .null, .null, .null, .null]) rfl rfl rfl rfl (Nat.le_of_ble_eq_true rfl) (Nat.le_of_ble_eq_true rfl) (Nat.le_of_ble_eq_true rfl) rfl (Or.inr ⟨pm_N2_ini, rfl, rfl⟩) rfl rfl ?_
  refine pm_R_lo pm_M2 (pc' := 41) rfl rfl rfl ?_
  refine pm_R_stat pm_M2 (pc' := 44) rfl rfl rfl ?_
  refine pm_R_op pm_M2 (pc' := 45) (st' := [.int 1, .ref 1, .ref 17]) rfl rfl rfl ?_
  refine pm_R_iald pm_M2 (pc' := 46) (v := 3) rfl rfl (Nat.le_of_ble_eq_true rfl) rfl rfl rfl ?_
  refine pm_R_newq pm_M2 (pc' := 49) (N := 3) rfl rfl rfl (by decide) rfl (Nat.le_of_ble_eq_true rfl) rfl ?_
  show pm_R _ 2 49 [.ref 17] [.ref 20, .ref 17] _ _
  refine pm_R_put pm_M2 (pc' := 52) (fs' := [.ref 18, .int 0, .int 0, .int (-1), .ref 19, .ref 20, .null, .null, .null]) rfl rfl rfl rfl (Nat.le_of_ble_eq_true rfl) (Nat.le_of_ble_eq_true rfl) (Nat.le_of_ble_eq_true rfl) rfl (Or.inr ⟨pm_N2_ini, rfl, rfl⟩) rfl rfl ?_
  refine pm_R_lo pm_M2 (pc' := 53) rfl rfl rfl ?_
  refine pm_R_stat pm_M2 (pc' := 56) rfl rfl rfl ?_
  refine pm_R_op pm_M2 (pc' := 57) (st' := [.int 2, .ref 1, .ref 17]) rfl rfl rfl ?_
  refine pm_R_iald pm_M2 (pc' := 58) (v := 2) rfl rfl (Nat.le_of_ble_eq_true rfl) rfl rfl rfl ?_
  refine pm_R_newq pm_M2 (pc' := 61) (N := 2) rfl rfl rfl (by decide) rfl (Nat.le_of_ble_eq_true rfl) rfl ?_
  show pm_R _ 2 61 [.ref 17] [.ref 21, .ref 17] _ _
  refine pm_R_put pm_M2 (pc' := 64) (fs' := [.ref 18, .int 0, .int 0, .int (-1), .ref 19, .ref 20, .ref 21, .null, .null]) rfl rfl rfl rfl (Nat.le_of_ble_eq_true rfl) (Nat.le_of_ble_eq_true rfl) (Nat.le_of_ble_eq_true rfl) rfl (Or.inr ⟨pm_N2_ini, rfl, rfl⟩) rfl rfl ?_
  refine pm_R_lo pm_M2 (pc' := 65) rfl rfl rfl ?_
  refine pm_R_stat pm_M2 (pc' := 68) rfl rfl rfl ?_
  refine pm_R_op pm_M2 (pc' := 69) (st' := [.int 3, .ref 1, .ref 17]) rfl rfl rfl ?_
  refine pm_R_iald pm_M2 (pc' := 70) (v := 2) rfl rfl (Nat.le_of_ble_eq_true rfl) rfl rfl rfl ?_
  refine pm_R_newq pm_M2 (pc' := 73) (N := 2) rfl rfl rfl (by decide) rfl (Nat.le_of_ble_eq_true rfl) rfl ?_
  show pm_R _ 2 73 [.ref 17] [.ref 22, .ref 17] _ _
  refine pm_R_put pm_M2 (pc' := 76) (fs' := [.ref 18, .int 0, .int 0, .int (-1), .ref 19, .ref 20, .ref 21, .ref 22, .null]) rfl rfl rfl rfl (Nat.le_of_ble_eq_true rfl) (Nat.le_of_ble_eq_true rfl) (Nat.le_of_ble_eq_true rfl) rfl (Or.inr ⟨pm_N2_ini, rfl, rfl⟩) rfl rfl ?_
  refine pm_R_lo pm_M2 (pc' := 77) rfl rfl rfl ?_
  refine pm_R_op pm_M2 (pc' := 78) (st' := [.int 4, .ref 17]) rfl rfl rfl ?_
  refine pm_R_newa pm_M2 (pc' := 80) (N := 4) rfl rfl (by decide) rfl (Nat.le_of_ble_eq_true rfl) rfl ?_
  show pm_R _ 2 80 [.ref 17] [.ref 23, .ref 17] _ _
  refine pm_R_put pm_M2 (pc' := 83) (fs' := [.ref 18, .int 0, .int 0, .int (-1), .ref 19, .ref 20, .ref 21, .ref 22, .ref 23]) rfl rfl rfl rfl (Nat.le_of_ble_eq_true rfl) (Nat.le_of_ble_eq_true rfl) (Nat.le_of_ble_eq_true rfl) rfl (Or.inr ⟨pm_N2_ini, rfl, rfl⟩) rfl rfl ?_
  refine pm_R_ret pm_M2 (r := none) rfl rfl ?_
  show pm_R _ 1 12 [.ref 16] [.ref 17, .ref 16] _ _
  refine pm_R_put pm_M1 (pc' := 15) (fs' := [.ref 17, .null, .null, .null, .null, .null, .null, .null, .null, .null]) rfl rfl rfl rfl (Nat.le_of_ble_eq_true rfl) (Nat.le_of_ble_eq_true rfl) (Nat.le_of_ble_eq_true rfl) rfl (Or.inr ⟨pm_N1_ini, rfl, rfl⟩) rfl rfl ?_
  refine pm_R_lo pm_M1 (pc' := 16) rfl rfl rfl ?_
  refine pm_R_op pm_M1 (pc' := 17) (st' := [.int 3, .ref 16]) rfl rfl rfl ?_
  refine pm_R_newq pm_M1 (pc' := 20) (N := 3) rfl rfl rfl (by decide) rfl (Nat.le_of_ble_eq_true rfl) rfl ?_
  show pm_R _ 1 20 [.ref 16] [.ref 24, .ref 16] _ _
  refine pm_R_put pm_M1 (pc' := 23) (fs' := [.ref 17, .ref 24, .null, .null, .null, .null, .null, .null, .null, .null]) rfl rfl rfl rfl (Nat.le_of_ble_eq_true rfl) (Nat.le_of_ble_eq_true rfl) (Nat.le_of_ble_eq_true rfl) rfl (Or.inr ⟨pm_N1_ini, rfl, rfl⟩) rfl rfl ?_
  refine pm_R_lo pm_M1 (pc' := 24) rfl rfl rfl ?_
  refine pm_R_new pm_M1 (pc' := 27) (fs := [.null, .int 0, .int 0, .null, .int 0, .null, .int 0, .null, .int 0, .int 0, .null]) rfl rfl rfl rfl rfl ?_
  show pm_R _ 1 27 [.ref 16] [.ref 25, .ref 16] _ _
  refine pm_R_op pm_M1 (pc' := 28) (st' := [.ref 25, .ref 25, .ref 16]) rfl rfl rfl ?_
  refine pm_R_lo pm_M1 (pc' := 29) rfl rfl rfl ?_
  refine pm_R_get pm_M1 (pc' := 32) (v := .ref 17) rfl rfl rfl (Nat.le_of_ble_eq_true rfl) (Nat.le_of_ble_eq_true rfl) rfl rfl ?_
  refine pm_R_get pm_M1 (pc' := 35) (v := .ref 18) rfl rfl rfl (Nat.le_of_ble_eq_true rfl) (Nat.le_of_ble_eq_true rfl) rfl rfl ?_
  refine pm_R_ci pm_M1 (pc' := 38) (a := 25) (ra := [.ref 18]) (rest := [.ref 25, .ref 16]) (ls' := [.ref 25, .ref 18]) rfl rfl (Or.inl rfl) pm_M3 rfl rfl (Nat.le_of_ble_eq_true rfl) rfl rfl ?_
  refine pm_R_lo pm_M3 (pc' := 1) rfl rfl rfl ?_
  refine pm_R_obj pm_M3 (pc' := 4) rfl rfl rfl (Nat.le_of_ble_eq_true rfl) rfl ?_
  refine pm_R_lo pm_M3 (pc' := 5) rfl rfl rfl ?_
  refine pm_R_op pm_M3 (pc' := 6) (st' := [.int 0, .ref 25]) rfl rfl rfl ?_
  refine pm_R_put pm_M3 (pc' := 9) (fs' := [.null, .int 0, .int 0, .null, .int 0, .null, .int 0, .null, .int 0, .int 0, .null]) rfl rfl rfl rfl (Nat.le_of_ble_eq_true rfl) (Nat.le_of_ble_eq_true rfl) (Nat.le_of_ble_eq_true rfl) rfl (Or.inl rfl) rfl rfl ?_
  refine pm_R_lo pm_M3 (pc' := 10) rfl rfl rfl ?_
  refine pm_R_op pm_M3 (pc' := 11) (st' := [.int (-1), .ref 25]) rfl rfl rfl ?_
  refine pm_R_put pm_M3 (pc' := 14) (fs' := [.null, .int 0, .int (-1), .null, .int 0, .null, .int 0, .null, .int 0, .int 0, .null]) rfl rfl rfl rfl (Nat.le_of_ble_eq_true rfl) (Nat.le_of_ble_eq_true rfl) (Nat.le_of_ble_eq_true rfl) rfl (Or.inl rfl) rfl rfl ?_
  refine pm_R_lo pm_M3 (pc' := 15) rfl rfl rfl ?_
  refine pm_R_op pm_M3 (pc' := 18) (st' := [.int 200, .ref 25]) rfl rfl rfl ?_
  refine pm_R_newa pm_M3 (pc' := 20) (N := 200) rfl rfl (by decide) rfl (Nat.le_of_ble_eq_true rfl) rfl ?_
  show pm_R _ 3 20 [.ref 25, .ref 18] [.ref 26, .ref 25] _ _
  refine pm_R_put pm_M3 (pc' := 23) (fs' := [.null, .int 0, .int (-1), .ref 26, .int 0, .null, .int 0, .null, .int 0, .int 0, .null]) rfl rfl rfl rfl (Nat.le_of_ble_eq_true rfl) (Nat.le_of_ble_eq_true rfl) (Nat.le_of_ble_eq_true rfl) rfl (Or.inr ⟨pm_N3_ini, rfl, rfl⟩) rfl rfl ?_
  refine pm_R_lo pm_M3 (pc' := 24) rfl rfl rfl ?_
  refine pm_R_op pm_M3 (pc' := 25) (st' := [.int 0, .ref 25]) rfl rfl rfl ?_
  refine pm_R_put pm_M3 (pc' := 28) (fs' := [.null, .int 0, .int (-1), .ref 26, .int 0, .null, .int 0, .null, .int 0, .int 0, .null]) rfl rfl rfl rfl (Nat.le_of_ble_eq_true rfl) (Nat.le_of_ble_eq_true rfl) (Nat.le_of_ble_eq_true rfl) rfl (Or.inl rfl) rfl rfl ?_
  refine pm_R_lo pm_M3 (pc' := 29) rfl rfl rfl ?_
  refine pm_R_op pm_M3 (pc' := 31) (st' := [.int 64, .ref 25]) rfl rfl rfl ?_
  refine pm_R_newa pm_M3 (pc' := 33) (N := 64) rfl rfl (by decide) rfl (Nat.le_of_ble_eq_true rfl) rfl ?_
  show pm_R _ 3 33 [.ref 25, .ref 18] [.ref 27, .ref 25] _ _
  refine pm_R_put pm_M3 (pc' := 36) (fs' := [.null, .int 0, .int (-1), .ref 26, .int 0, .ref 27, .int 0, .null, .int 0, .int 0, .null]) rfl rfl rfl rfl (Nat.le_of_ble_eq_true rfl) (Nat.le_of_ble_eq_true rfl) (Nat.le_of_ble_eq_true rfl) rfl (Or.inr ⟨pm_N3_ini, rfl, rfl⟩) rfl rfl ?_
  refine pm_R_lo pm_M3 (pc' := 37) rfl rfl rfl ?_
  refine pm_R_op pm_M3 (pc' := 38) (st' := [.int 0, .ref 25]) rfl rfl rfl ?_
  refine pm_R_put pm_M3 (pc' := 41) (fs' := [.null, .int 0, .int (-1), .ref 26, .int 0, .ref 27, .int 0, .null, .int 0, .int 0, .null]) rfl rfl rfl rfl (Nat.le_of_ble_eq_true rfl) (Nat.le_of_ble_eq_true rfl) (Nat.le_of_ble_eq_true rfl) rfl (Or.inl rfl) rfl rfl ?_
  refine pm_R_lo pm_M3 (pc' := 42) rfl rfl rfl ?_
  refine pm_R_op pm_M3 (pc' := 44) (st' := [.int 10, .ref 25]) rfl rfl rfl ?_
  refine pm_R_newa pm_M3 (pc' := 46) (N := 10) rfl rfl (by decide) rfl (Nat.le_of_ble_eq_true rfl) rfl ?_
  show pm_R _ 3 46 [.ref 25, .ref 18] [.ref 28, .ref 25] _ _
  refine pm_R_put pm_M3 (pc' := 49) (fs' := [.null, .int 0, .int (-1), .ref 26, .int 0, .ref 27, .int 0, .ref 28, .int 0, .int 0, .null]) rfl rfl rfl rfl (Nat.le_of_ble_eq_true rfl) (Nat.le_of_ble_eq_true rfl) (Nat.le_of_ble_eq_true rfl) rfl (Or.inr ⟨pm_N3_ini, rfl, rfl⟩) rfl rfl ?_
  refine pm_R_lo pm_M3 (pc' := 50) rfl rfl rfl ?_
  refine pm_R_op pm_M3 (pc' := 51) (st' := [.int 4, .ref 25]) rfl rfl rfl ?_
  refine pm_R_put pm_M3 (pc' := 54) (fs' := [.null, .int 0, .int (-1), .ref 26, .int 0, .ref 27, .int 0, .ref 28, .int 4, .int 0, .null]) rfl rfl rfl rfl (Nat.le_of_ble_eq_true rfl) (Nat.le_of_ble_eq_true rfl) (Nat.le_of_ble_eq_true rfl) rfl (Or.inl rfl) rfl rfl ?_
  refine pm_R_lo pm_M3 (pc' := 55) rfl rfl rfl ?_
  refine pm_R_op pm_M3 (pc' := 56) (st' := [.int (-1), .ref 25]) rfl rfl rfl ?_
  refine pm_R_put pm_M3 (pc' := 59) (fs' := [.null, .int 0, .int (-1), .ref 26, .int 0, .ref 27, .int 0, .ref 28, .int 4, .int (-1), .null]) rfl rfl rfl rfl (Nat.le_of_ble_eq_true rfl) (Nat.le_of_ble_eq_true rfl) (Nat.le_of_ble_eq_true rfl) rfl (Or.inl rfl) rfl rfl ?_
  refine pm_R_lo pm_M3 (pc' := 60) rfl rfl rfl ?_
  refine pm_R_op pm_M3 (pc' := 61) (st' := [.int 4, .ref 25]) rfl rfl rfl ?_
  refine pm_R_newa pm_M3 (pc' := 63) (N := 4) rfl rfl (by decide) rfl (Nat.le_of_ble_eq_true rfl) rfl ?_
  show pm_R _ 3 63 [.ref 25, .ref 18] [.ref 29, .ref 25] _ _
  refine pm_R_put pm_M3 (pc' := 66) (fs' := [.null, .int 0, .int (-1), .ref 26, .int 0, .ref 27, .int 0, .ref 28, .int 4, .int (-1), .ref 29]) rfl rfl rfl rfl (Nat.le_of_ble_eq_true rfl) (Nat.le_of_ble_eq_true rfl) (Nat.le_of_ble_eq_true rfl) rfl (Or.inr ⟨pm_N3_ini, rfl, rfl⟩) rfl rfl ?_
  refine pm_R_lo pm_M3 (pc' := 67) rfl rfl rfl ?_
  refine pm_R_new pm_M3 (pc' := 70) (fs := [.null, .int 0, .int 0, .int 0, .int 0, .int 0]) rfl rfl rfl rfl rfl ?_
  show pm_R _ 3 70 [.ref 25, .ref 18] [.ref 30, .ref 25] _ _
  refine pm_R_op pm_M3 (pc' := 71) (st' := [.ref 30, .ref 30, .ref 25]) rfl rfl rfl ?_
  refine pm_R_lo pm_M3 (pc' := 72) rfl rfl rfl ?_
  refine pm_R_ci pm_M3 (pc' := 75) (a := 30) (ra := [.ref 18]) (rest := [.ref 30, .ref 25]) (ls' := [.ref 30, .ref 18]) rfl rfl (Or.inl rfl) pm_M4 rfl rfl (Nat.le_of_ble_eq_true rfl) rfl rfl ?_
  refine pm_R_lo pm_M4 (pc' := 1) rfl rfl rfl ?_
  refine pm_R_obj pm_M4 (pc' := 4) rfl rfl rfl (Nat.le_of_ble_eq_true rfl) rfl ?_
  refine pm_R_lo pm_M4 (pc' := 5) rfl rfl rfl ?_
  refine pm_R_op pm_M4 (pc' := 6) (st' := [.int 0, .ref 30]) rfl rfl rfl ?_
  refine pm_R_put pm_M4 (pc' := 9) (fs' := [.null, .int 0, .int 0, .int 0, .int 0, .int 0]) rfl rfl rfl rfl (Nat.le_of_ble_eq_true rfl) (Nat.le_of_ble_eq_true rfl) (Nat.le_of_ble_eq_true rfl) rfl (Or.inl rfl) rfl rfl ?_
  refine pm_R_lo pm_M4 (pc' := 10) rfl rfl rfl ?_
  refine pm_R_op pm_M4 (pc' := 11) (st' := [.int 0, .ref 30]) rfl rfl rfl ?_
  refine pm_R_put pm_M4 (pc' := 14) (fs' := [.null, .int 0, .int 0, .int 0, .int 0, .int 0]) rfl rfl rfl rfl (Nat.le_of_ble_eq_true rfl) (Nat.le_of_ble_eq_true rfl) (Nat.le_of_ble_eq_true rfl) rfl (Or.inl rfl) rfl rfl ?_
  refine pm_R_lo pm_M4 (pc' := 15) rfl rfl rfl ?_
  refine pm_R_op pm_M4 (pc' := 16) (st' := [.int 0, .ref 30]) rfl rfl rfl ?_
  refine pm_R_put pm_M4 (pc' := 19) (fs' := [.null, .int 0, .int 0, .int 0, .int 0, .int 0]) rfl rfl rfl rfl (Nat.le_of_ble_eq_true rfl) (Nat.le_of_ble_eq_true rfl) (Nat.le_of_ble_eq_true rfl) rfl (Or.inl rfl) rfl rfl ?_
  refine pm_R_lo pm_M4 (pc' := 20) rfl rfl rfl ?_
  refine pm_R_op pm_M4 (pc' := 21) (st' := [.int 0, .ref 30]) rfl rfl rfl ?_
  refine pm_R_put pm_M4 (pc' := 24) (fs' := [.null, .int 0, .int 0, .int 0, .int 0, .int 0]) rfl rfl rfl rfl (Nat.le_of_ble_eq_true rfl) (Nat.le_of_ble_eq_true rfl) (Nat.le_of_ble_eq_true rfl) rfl (Or.inl rfl) rfl rfl ?_
  refine pm_R_lo pm_M4 (pc' := 25) rfl rfl rfl ?_
  refine pm_R_op pm_M4 (pc' := 26) (st' := [.int 0, .ref 30]) rfl rfl rfl ?_
  refine pm_R_put pm_M4 (pc' := 29) (fs' := [.null, .int 0, .int 0, .int 0, .int 0, .int 0]) rfl rfl rfl rfl (Nat.le_of_ble_eq_true rfl) (Nat.le_of_ble_eq_true rfl) (Nat.le_of_ble_eq_true rfl) rfl (Or.inl rfl) rfl rfl ?_
  refine pm_R_lo pm_M4 (pc' := 30) rfl rfl rfl ?_
  refine pm_R_lo pm_M4 (pc' := 31) rfl rfl rfl ?_
  refine pm_R_put pm_M4 (pc' := 34) (fs' := [.ref 18, .int 0, .int 0, .int 0, .int 0, .int 0]) rfl rfl rfl rfl (Nat.le_of_ble_eq_true rfl) (Nat.le_of_ble_eq_true rfl) (Nat.le_of_ble_eq_true rfl) rfl (Or.inr ⟨pm_N4_ini, rfl, rfl⟩) rfl rfl ?_
  refine pm_R_ret pm_M4 (r := none) rfl rfl ?_
  show pm_R _ 3 75 [.ref 25, .ref 18] [.ref 30, .ref 25] _ _
  refine pm_R_put pm_M3 (pc' := 78) (fs' := [.ref 30, .int 0, .int (-1), .ref 26, .int 0, .ref 27, .int 0, .ref 28, .int 4, .int (-1), .ref 29]) rfl rfl rfl rfl (Nat.le_of_ble_eq_true rfl) (Nat.le_of_ble_eq_true rfl) (Nat.le_of_ble_eq_true rfl) rfl (Or.inr ⟨pm_N3_ini, rfl, rfl⟩) rfl rfl ?_
  refine pm_R_ret pm_M3 (r := none) rfl rfl ?_
  show pm_R _ 1 38 [.ref 16] [.ref 25, .ref 16] _ _
  refine pm_R_put pm_M1 (pc' := 41) (fs' := [.ref 17, .ref 24, .ref 25, .null, .null, .null, .null, .null, .null, .null]) rfl rfl rfl rfl (Nat.le_of_ble_eq_true rfl) (Nat.le_of_ble_eq_true rfl) (Nat.le_of_ble_eq_true rfl) rfl (Or.inr ⟨pm_N1_ini, rfl, rfl⟩) rfl rfl ?_
  refine pm_R_lo pm_M1 (pc' := 42) rfl rfl rfl ?_
  refine pm_R_new pm_M1 (pc' := 45) (fs := [.null]) rfl rfl rfl rfl rfl ?_
  show pm_R _ 1 45 [.ref 16] [.ref 31, .ref 16] _ _
  refine pm_R_op pm_M1 (pc' := 46) (st' := [.ref 31, .ref 31, .ref 16]) rfl rfl rfl ?_
  refine pm_R_ci pm_M1 (pc' := 49) (a := 31) (ra := []) (rest := [.ref 31, .ref 16]) (ls' := [.ref 31]) rfl rfl (Or.inr rfl) pm_M5 rfl rfl (Nat.le_of_ble_eq_true rfl) rfl rfl ?_
  refine pm_R_lo pm_M5 (pc' := 1) rfl rfl rfl ?_
  refine pm_R_obj pm_M5 (pc' := 4) rfl rfl rfl (Nat.le_of_ble_eq_true rfl) rfl ?_
  refine pm_R_lo pm_M5 (pc' := 5) rfl rfl rfl ?_
  refine pm_R_op pm_M5 (pc' := 8) (st' := [.int 468, .ref 31]) rfl rfl rfl ?_
  refine pm_R_newa pm_M5 (pc' := 10) (N := 468) rfl rfl (by decide) rfl (Nat.le_of_ble_eq_true rfl) rfl ?_
  show pm_R _ 5 10 [.ref 31] [.ref 32, .ref 31] _ _
  refine pm_R_put pm_M5 (pc' := 13) (fs' := [.ref 32]) rfl rfl rfl rfl (Nat.le_of_ble_eq_true rfl) (Nat.le_of_ble_eq_true rfl) (Nat.le_of_ble_eq_true rfl) rfl (Or.inr ⟨pm_N5_ini, rfl, rfl⟩) rfl rfl ?_
  refine pm_R_ret pm_M5 (r := none) rfl rfl ?_
  show pm_R _ 1 49 [.ref 16] [.ref 31, .ref 16] _ _
  refine pm_R_put pm_M1 (pc' := 52) (fs' := [.ref 17, .ref 24, .ref 25, .ref 31, .null, .null, .null, .null, .null, .null]) rfl rfl rfl rfl (Nat.le_of_ble_eq_true rfl) (Nat.le_of_ble_eq_true rfl) (Nat.le_of_ble_eq_true rfl) rfl (Or.inr ⟨pm_N1_ini, rfl, rfl⟩) rfl rfl ?_
  refine pm_R_lo pm_M1 (pc' := 53) rfl rfl rfl ?_
  refine pm_R_new pm_M1 (pc' := 56) (fs := [.null, .null, .int 0, .int 0, .null, .null, .null]) rfl rfl rfl rfl rfl ?_
  show pm_R _ 1 56 [.ref 16] [.ref 33, .ref 16] _ _
  refine pm_R_op pm_M1 (pc' := 57) (st' := [.ref 33, .ref 33, .ref 16]) rfl rfl rfl ?_
  refine pm_R_ci pm_M1 (pc' := 60) (a := 33) (ra := []) (rest := [.ref 33, .ref 16]) (ls' := [.ref 33]) rfl rfl (Or.inr rfl) pm_M6 rfl rfl (Nat.le_of_ble_eq_true rfl) rfl rfl ?_
  refine pm_R_lo pm_M6 (pc' := 1) rfl rfl rfl ?_
  refine pm_R_obj pm_M6 (pc' := 4) rfl rfl rfl (Nat.le_of_ble_eq_true rfl) rfl ?_
  refine pm_R_lo pm_M6 (pc' := 5) rfl rfl rfl ?_
  refine pm_R_op pm_M6 (pc' := 8) (st' := [.int 468, .ref 33]) rfl rfl rfl ?_
  refine pm_R_newa pm_M6 (pc' := 10) (N := 468) rfl rfl (by decide) rfl (Nat.le_of_ble_eq_true rfl) rfl ?_
  show pm_R _ 6 10 [.ref 33] [.ref 34, .ref 33] _ _
  refine pm_R_put pm_M6 (pc' := 13) (fs' := [.ref 34, .null, .int 0, .int 0, .null, .null, .null]) rfl rfl rfl rfl (Nat.le_of_ble_eq_true rfl) (Nat.le_of_ble_eq_true rfl) (Nat.le_of_ble_eq_true rfl) rfl (Or.inr ⟨pm_N6_ini, rfl, rfl⟩) rfl rfl ?_
  refine pm_R_lo pm_M6 (pc' := 14) rfl rfl rfl ?_
  refine pm_R_op pm_M6 (pc' := 16) (st' := [.int 12, .ref 33]) rfl rfl rfl ?_
  refine pm_R_newa pm_M6 (pc' := 18) (N := 12) rfl rfl (by decide) rfl (Nat.le_of_ble_eq_true rfl) rfl ?_
  show pm_R _ 6 18 [.ref 33] [.ref 35, .ref 33] _ _
  refine pm_R_put pm_M6 (pc' := 21) (fs' := [.ref 34, .ref 35, .int 0, .int 0, .null, .null, .null]) rfl rfl rfl rfl (Nat.le_of_ble_eq_true rfl) (Nat.le_of_ble_eq_true rfl) (Nat.le_of_ble_eq_true rfl) rfl (Or.inr ⟨pm_N6_ini, rfl, rfl⟩) rfl rfl ?_
  refine pm_R_lo pm_M6 (pc' := 22) rfl rfl rfl ?_
  refine pm_R_op pm_M6 (pc' := 23) (st' := [.int (-1), .ref 33]) rfl rfl rfl ?_
  refine pm_R_put pm_M6 (pc' := 26) (fs' := [.ref 34, .ref 35, .int (-1), .int 0, .null, .null, .null]) rfl rfl rfl rfl (Nat.le_of_ble_eq_true rfl) (Nat.le_of_ble_eq_true rfl) (Nat.le_of_ble_eq_true rfl) rfl (Or.inl rfl) rfl rfl ?_
  refine pm_R_lo pm_M6 (pc' := 27) rfl rfl rfl ?_
  refine pm_R_op pm_M6 (pc' := 28) (st' := [.int (-1), .ref 33]) rfl rfl rfl ?_
  refine pm_R_put pm_M6 (pc' := 31) (fs' := [.ref 34, .ref 35, .int (-1), .int (-1), .null, .null, .null]) rfl rfl rfl rfl (Nat.le_of_ble_eq_true rfl) (Nat.le_of_ble_eq_true rfl) (Nat.le_of_ble_eq_true rfl) rfl (Or.inl rfl) rfl rfl ?_
  refine pm_R_lo pm_M6 (pc' := 32) rfl rfl rfl ?_
  refine pm_R_op pm_M6 (pc' := 34) (st' := [.int 78, .ref 33]) rfl rfl rfl ?_
  refine pm_R_newa pm_M6 (pc' := 36) (N := 78) rfl rfl (by decide) rfl (Nat.le_of_ble_eq_true rfl) rfl ?_
  show pm_R _ 6 36 [.ref 33] [.ref 36, .ref 33] _ _
  refine pm_R_put pm_M6 (pc' := 39) (fs' := [.ref 34, .ref 35, .int (-1), .int (-1), .ref 36, .null, .null]) rfl rfl rfl rfl (Nat.le_of_ble_eq_true rfl) (Nat.le_of_ble_eq_true rfl) (Nat.le_of_ble_eq_true rfl) rfl (Or.inr ⟨pm_N6_ini, rfl, rfl⟩) rfl rfl ?_
  refine pm_R_lo pm_M6 (pc' := 40) rfl rfl rfl ?_
  refine pm_R_op pm_M6 (pc' := 41) (st' := [.null, .ref 33]) rfl rfl rfl ?_
  refine pm_R_put pm_M6 (pc' := 44) (fs' := [.ref 34, .ref 35, .int (-1), .int (-1), .ref 36, .null, .null]) rfl rfl rfl rfl (Nat.le_of_ble_eq_true rfl) (Nat.le_of_ble_eq_true rfl) (Nat.le_of_ble_eq_true rfl) rfl (Or.inl rfl) rfl rfl ?_
  refine pm_R_lo pm_M6 (pc' := 45) rfl rfl rfl ?_
  refine pm_R_op pm_M6 (pc' := 46) (st' := [.null, .ref 33]) rfl rfl rfl ?_
  refine pm_R_put pm_M6 (pc' := 49) (fs' := [.ref 34, .ref 35, .int (-1), .int (-1), .ref 36, .null, .null]) rfl rfl rfl rfl (Nat.le_of_ble_eq_true rfl) (Nat.le_of_ble_eq_true rfl) (Nat.le_of_ble_eq_true rfl) rfl (Or.inl rfl) rfl rfl ?_
  refine pm_R_ret pm_M6 (r := none) rfl rfl ?_
  show pm_R _ 1 60 [.ref 16] [.ref 33, .ref 16] _ _
  refine pm_R_put pm_M1 (pc' := 63) (fs' := [.ref 17, .ref 24, .ref 25, .ref 31, .ref 33, .null, .null, .null, .null, .null]) rfl rfl rfl rfl (Nat.le_of_ble_eq_true rfl) (Nat.le_of_ble_eq_true rfl) (Nat.le_of_ble_eq_true rfl) rfl (Or.inr ⟨pm_N1_ini, rfl, rfl⟩) rfl rfl ?_
  refine pm_R_lo pm_M1 (pc' := 64) rfl rfl rfl ?_
  refine pm_R_op pm_M1 (pc' := 65) (st' := [.null, .ref 16]) rfl rfl rfl ?_
  refine pm_R_put pm_M1 (pc' := 68) (fs' := [.ref 17, .ref 24, .ref 25, .ref 31, .ref 33, .null, .null, .null, .null, .null]) rfl rfl rfl rfl (Nat.le_of_ble_eq_true rfl) (Nat.le_of_ble_eq_true rfl) (Nat.le_of_ble_eq_true rfl) rfl (Or.inl rfl) rfl rfl ?_
  refine pm_R_lo pm_M1 (pc' := 69) rfl rfl rfl ?_
  refine pm_R_stat pm_M1 (pc' := 72) rfl rfl rfl ?_
  refine pm_R_op pm_M1 (pc' := 73) (st' := [.int 0, .ref 1, .ref 16]) rfl rfl rfl ?_
  refine pm_R_iald pm_M1 (pc' := 74) (v := 2) rfl rfl (Nat.le_of_ble_eq_true rfl) rfl rfl rfl ?_
  refine pm_R_newq pm_M1 (pc' := 77) (N := 2) rfl rfl rfl (by decide) rfl (Nat.le_of_ble_eq_true rfl) rfl ?_
  show pm_R _ 1 77 [.ref 16] [.ref 37, .ref 16] _ _
  refine pm_R_put pm_M1 (pc' := 80) (fs' := [.ref 17, .ref 24, .ref 25, .ref 31, .ref 33, .null, .ref 37, .null, .null, .null]) rfl rfl rfl rfl (Nat.le_of_ble_eq_true rfl) (Nat.le_of_ble_eq_true rfl) (Nat.le_of_ble_eq_true rfl) rfl (Or.inr ⟨pm_N1_ini, rfl, rfl⟩) rfl rfl ?_
  refine pm_R_lo pm_M1 (pc' := 81) rfl rfl rfl ?_
  refine pm_R_op pm_M1 (pc' := 83) (st' := [.int 12, .ref 16]) rfl rfl rfl ?_
  refine pm_R_newa pm_M1 (pc' := 85) (N := 12) rfl rfl (by decide) rfl (Nat.le_of_ble_eq_true rfl) rfl ?_
  show pm_R _ 1 85 [.ref 16] [.ref 38, .ref 16] _ _
  refine pm_R_put pm_M1 (pc' := 88) (fs' := [.ref 17, .ref 24, .ref 25, .ref 31, .ref 33, .null, .ref 37, .ref 38, .null, .null]) rfl rfl rfl rfl (Nat.le_of_ble_eq_true rfl) (Nat.le_of_ble_eq_true rfl) (Nat.le_of_ble_eq_true rfl) rfl (Or.inr ⟨pm_N1_ini, rfl, rfl⟩) rfl rfl ?_
  refine pm_R_lo pm_M1 (pc' := 89) rfl rfl rfl ?_
  refine pm_R_op pm_M1 (pc' := 91) (st' := [.int 50, .ref 16]) rfl rfl rfl ?_
  refine pm_R_newa pm_M1 (pc' := 93) (N := 50) rfl rfl (by decide) rfl (Nat.le_of_ble_eq_true rfl) rfl ?_
  show pm_R _ 1 93 [.ref 16] [.ref 39, .ref 16] _ _
  refine pm_R_put pm_M1 (pc' := 96) (fs' := [.ref 17, .ref 24, .ref 25, .ref 31, .ref 33, .null, .ref 37, .ref 38, .ref 39, .null]) rfl rfl rfl rfl (Nat.le_of_ble_eq_true rfl) (Nat.le_of_ble_eq_true rfl) (Nat.le_of_ble_eq_true rfl) rfl (Or.inr ⟨pm_N1_ini, rfl, rfl⟩) rfl rfl ?_
  refine pm_R_lo pm_M1 (pc' := 97) rfl rfl rfl ?_
  refine pm_R_op pm_M1 (pc' := 99) (st' := [.int 50, .ref 16]) rfl rfl rfl ?_
  refine pm_R_newa pm_M1 (pc' := 101) (N := 50) rfl rfl (by decide) rfl (Nat.le_of_ble_eq_true rfl) rfl ?_
  show pm_R _ 1 101 [.ref 16] [.ref 40, .ref 16] _ _
  refine pm_R_put pm_M1 (pc' := 104) (fs' := [.ref 17, .ref 24, .ref 25, .ref 31, .ref 33, .null, .ref 37, .ref 38, .ref 39, .ref 40]) rfl rfl rfl rfl (Nat.le_of_ble_eq_true rfl) (Nat.le_of_ble_eq_true rfl) (Nat.le_of_ble_eq_true rfl) rfl (Or.inr ⟨pm_N1_ini, rfl, rfl⟩) rfl rfl ?_
  refine pm_R_ret pm_M1 (r := none) rfl rfl ?_
  show pm_R _ 0 7 [.ref 0, pm_no, pm_no, pm_no] [.ref 16] _ _
  refine pm_R_lo pm_M0 (pc' := 8) (ls' := [.ref 0, .ref 16, pm_no, pm_no]) (st' := []) rfl rfl rfl ?_
  refine pm_R_new pm_M0 (pc' := 11) (fs := [.int 0, .null, .null, .null, .null, .null, .null, .null, .null, .null, .int 0, .int 0, .int 0, .int 0, .int 0, .long 0, .int 0, .int 0, .int 0, .null, .null, .int 0, .int 0, .int 0, .int 0, .null, .int 0, .int 0, .null, .null, .null, .int 0, .null, .null, .null, .null, .null, .null, .null, .null, .null, .null, .int 0, .int 0, .int 0, .null, .null, .int 0, .null, .int 0, .int 0, .null, .null]) rfl rfl rfl rfl rfl ?_
  show pm_R _ 0 11 [.ref 0, .ref 16, pm_no, pm_no] [.ref 41] _ _
  refine pm_R_op pm_M0 (pc' := 12) (st' := [.ref 41, .ref 41]) rfl rfl rfl ?_
  refine pm_R_ci pm_M0 (pc' := 15) (a := 41) (ra := []) (rest := [.ref 41]) (ls' := [.ref 41]) rfl rfl (Or.inl rfl) pm_M170 rfl rfl (Nat.le_of_ble_eq_true rfl) rfl rfl ?_
  refine pm_R_lo pm_M170 (pc' := 1) rfl rfl rfl ?_
  refine pm_R_obj pm_M170 (pc' := 4) rfl rfl rfl (Nat.le_of_ble_eq_true rfl) rfl ?_
  refine pm_R_lo pm_M170 (pc' := 5) rfl rfl rfl ?_
  refine pm_R_op pm_M170 (pc' := 8) (st' := [.int 2400, .ref 41]) rfl rfl rfl ?_
  refine pm_R_newa pm_M170 (pc' := 10) (N := 2400) rfl rfl (by decide) rfl (Nat.le_of_ble_eq_true rfl) rfl ?_
  show pm_R _ 170 10 [.ref 41] [.ref 42, .ref 41] _ _
  refine pm_R_put pm_M170 (pc' := 13) (fs' := [.int 0, .ref 42, .null, .null, .null, .null, .null, .null, .null, .null, .int 0, .int 0, .int 0, .int 0, .int 0, .long 0, .int 0, .int 0, .int 0, .null, .null, .int 0, .int 0, .int 0, .int 0, .null, .int 0, .int 0, .null, .null, .null, .int 0, .null, .null, .null, .null, .null, .null, .null, .null, .null, .null, .int 0, .int 0, .int 0, .null, .null, .int 0, .null, .int 0, .int 0, .null, .null]) rfl rfl rfl rfl (Nat.le_of_ble_eq_true rfl) (Nat.le_of_ble_eq_true rfl) (Nat.le_of_ble_eq_true rfl) rfl (Or.inr ⟨pm_N170_ini, rfl, rfl⟩) rfl rfl ?_
  refine pm_R_lo pm_M170 (pc' := 14) rfl rfl rfl ?_
  refine pm_R_op pm_M170 (pc' := 15) (st' := [.int 4, .ref 41]) rfl rfl rfl ?_
  refine pm_R_newa pm_M170 (pc' := 17) (N := 4) rfl rfl (by decide) rfl (Nat.le_of_ble_eq_true rfl) rfl ?_
  show pm_R _ 170 17 [.ref 41] [.ref 43, .ref 41] _ _
  refine pm_R_put pm_M170 (pc' := 20) (fs' := [.int 0, .ref 42, .ref 43, .null, .null, .null, .null, .null, .null, .null, .int 0, .int 0, .int 0, .int 0, .int 0, .long 0, .int 0, .int 0, .int 0, .null, .null, .int 0, .int 0, .int 0, .int 0, .null, .int 0, .int 0, .null, .null, .null, .int 0, .null, .null, .null, .null, .null, .null, .null, .null, .null, .null, .int 0, .int 0, .int 0, .null, .null, .int 0, .null, .int 0, .int 0, .null, .null]) rfl rfl rfl rfl (Nat.le_of_ble_eq_true rfl) (Nat.le_of_ble_eq_true rfl) (Nat.le_of_ble_eq_true rfl) rfl (Or.inr ⟨pm_N170_ini, rfl, rfl⟩) rfl rfl ?_
  refine pm_R_lo pm_M170 (pc' := 21) rfl rfl rfl ?_
  refine pm_R_op pm_M170 (pc' := 22) (st' := [.int 4, .ref 41]) rfl rfl rfl ?_
  refine pm_R_newa pm_M170 (pc' := 24) (N := 4) rfl rfl (by decide) rfl (Nat.le_of_ble_eq_true rfl) rfl ?_
  show pm_R _ 170 24 [.ref 41] [.ref 44, .ref 41] _ _
  refine pm_R_put pm_M170 (pc' := 27) (fs' := [.int 0, .ref 42, .ref 43, .ref 44, .null, .null, .null, .null, .null, .null, .int 0, .int 0, .int 0, .int 0, .int 0, .long 0, .int 0, .int 0, .int 0, .null, .null, .int 0, .int 0, .int 0, .int 0, .null, .int 0, .int 0, .null, .null, .null, .int 0, .null, .null, .null, .null, .null, .null, .null, .null, .null, .null, .int 0, .int 0, .int 0, .null, .null, .int 0, .null, .int 0, .int 0, .null, .null]) rfl rfl rfl rfl (Nat.le_of_ble_eq_true rfl) (Nat.le_of_ble_eq_true rfl) (Nat.le_of_ble_eq_true rfl) rfl (Or.inr ⟨pm_N170_ini, rfl, rfl⟩) rfl rfl ?_
  refine pm_R_lo pm_M170 (pc' := 28) rfl rfl rfl ?_
  refine pm_R_op pm_M170 (pc' := 29) (st' := [.int 4, .ref 41]) rfl rfl rfl ?_
  refine pm_R_newa pm_M170 (pc' := 31) (N := 4) rfl rfl (by decide) rfl (Nat.le_of_ble_eq_true rfl) rfl ?_
  show pm_R _ 170 31 [.ref 41] [.ref 45, .ref 41] _ _
  refine pm_R_put pm_M170 (pc' := 34) (fs' := [.int 0, .ref 42, .ref 43, .ref 44, .ref 45, .null, .null, .null, .null, .null, .int 0, .int 0, .int 0, .int 0, .int 0, .long 0, .int 0, .int 0, .int 0, .null, .null, .int 0, .int 0, .int 0, .int 0, .null, .int 0, .int 0, .null, .null, .null, .int 0, .null, .null, .null, .null, .null, .null, .null, .null, .null, .null, .int 0, .int 0, .int 0, .null, .null, .int 0, .null, .int 0, .int 0, .null, .null]) rfl rfl rfl rfl (Nat.le_of_ble_eq_true rfl) (Nat.le_of_ble_eq_true rfl) (Nat.le_of_ble_eq_true rfl) rfl (Or.inr ⟨pm_N170_ini, rfl, rfl⟩) rfl rfl ?_
  refine pm_R_lo pm_M170 (pc' := 35) rfl rfl rfl ?_
  refine pm_R_op pm_M170 (pc' := 37) (st' := [.int 16, .ref 41]) rfl rfl rfl ?_
  refine pm_R_newa pm_M170 (pc' := 39) (N := 16) rfl rfl (by decide) rfl (Nat.le_of_ble_eq_true rfl) rfl ?_
  show pm_R _ 170 39 [.ref 41] [.ref 46, .ref 41] _ _
  refine pm_R_put pm_M170 (pc' := 42) (fs' := [.int 0, .ref 42, .ref 43, .ref 44, .ref 45, .ref 46, .null, .null, .null, .null, .int 0, .int 0, .int 0, .int 0, .int 0, .long 0, .int 0, .int 0, .int 0, .null, .null, .int 0, .int 0, .int 0, .int 0, .null, .int 0, .int 0, .null, .null, .null, .int 0, .null, .null, .null, .null, .null, .null, .null, .null, .null, .null, .int 0, .int 0, .int 0, .null, .null, .int 0, .null, .int 0, .int 0, .null, .null]) rfl rfl rfl rfl (Nat.le_of_ble_eq_true rfl) (Nat.le_of_ble_eq_true rfl) (Nat.le_of_ble_eq_true rfl) rfl (Or.inr ⟨pm_N170_ini, rfl, rfl⟩) rfl rfl ?_
  refine pm_R_lo pm_M170 (pc' := 43) rfl rfl rfl ?_
  refine pm_R_op pm_M170 (pc' := 46) (st' := [.int 800, .ref 41]) rfl rfl rfl ?_
  refine pm_R_newa pm_M170 (pc' := 48) (N := 800) rfl rfl (by decide) rfl (Nat.le_of_ble_eq_true rfl) rfl ?_
  show pm_R _ 170 48 [.ref 41] [.ref 47, .ref 41] _ _
  refine pm_R_put pm_M170 (pc' := 51) (fs' := [.int 0, .ref 42, .ref 43, .ref 44, .ref 45, .ref 46, .ref 47, .null, .null, .null, .int 0, .int 0, .int 0, .int 0, .int 0, .long 0, .int 0, .int 0, .int 0, .null, .null, .int 0, .int 0, .int 0, .int 0, .null, .int 0, .int 0, .null, .null, .null, .int 0, .null, .null, .null, .null, .null, .null, .null, .null, .null, .null, .int 0, .int 0, .int 0, .null, .null, .int 0, .null, .int 0, .int 0, .null, .null]) rfl rfl rfl rfl (Nat.le_of_ble_eq_true rfl) (Nat.le_of_ble_eq_true rfl) (Nat.le_of_ble_eq_true rfl) rfl (Or.inr ⟨pm_N170_ini, rfl, rfl⟩) rfl rfl ?_
  refine pm_R_lo pm_M170 (pc' := 52) rfl rfl rfl ?_
  refine pm_R_op pm_M170 (pc' := 55) (st' := [.int 156, .ref 41]) rfl rfl rfl ?_
  refine pm_R_newa pm_M170 (pc' := 57) (N := 156) rfl rfl (by decide) rfl (Nat.le_of_ble_eq_true rfl) rfl ?_
  show pm_R _ 170 57 [.ref 41] [.ref 48, .ref 41] _ _
  refine pm_R_put pm_M170 (pc' := 60) (fs' := [.int 0, .ref 42, .ref 43, .ref 44, .ref 45, .ref 46, .ref 47, .ref 48, .null, .null, .int 0, .int 0, .int 0, .int 0, .int 0, .long 0, .int 0, .int 0, .int 0, .null, .null, .int 0, .int 0, .int 0, .int 0, .null, .int 0, .int 0, .null, .null, .null, .int 0, .null, .null, .null, .null, .null, .null, .null, .null, .null, .null, .int 0, .int 0, .int 0, .null, .null, .int 0, .null, .int 0, .int 0, .null, .null]) rfl rfl rfl rfl (Nat.le_of_ble_eq_true rfl) (Nat.le_of_ble_eq_true rfl) (Nat.le_of_ble_eq_true rfl) rfl (Or.inr ⟨pm_N170_ini, rfl, rfl⟩) rfl rfl ?_
  refine pm_R_lo pm_M170 (pc' := 61) rfl rfl rfl ?_
  refine pm_R_op pm_M170 (pc' := 64) (st' := [.int 1216, .ref 41]) rfl rfl rfl ?_
  refine pm_R_newa pm_M170 (pc' := 66) (N := 1216) rfl rfl (by decide) rfl (Nat.le_of_ble_eq_true rfl) rfl ?_
  show pm_R _ 170 66 [.ref 41] [.ref 49, .ref 41] _ _
  refine pm_R_put pm_M170 (pc' := 69) (fs' := [.int 0, .ref 42, .ref 43, .ref 44, .ref 45, .ref 46, .ref 47, .ref 48, .ref 49, .null, .int 0, .int 0, .int 0, .int 0, .int 0, .long 0, .int 0, .int 0, .int 0, .null, .null, .int 0, .int 0, .int 0, .int 0, .null, .int 0, .int 0, .null, .null, .null, .int 0, .null, .null, .null, .null, .null, .null, .null, .null, .null, .null, .int 0, .int 0, .int 0, .null, .null, .int 0, .null, .int 0, .int 0, .null, .null]) rfl rfl rfl rfl (Nat.le_of_ble_eq_true rfl) (Nat.le_of_ble_eq_true rfl) (Nat.le_of_ble_eq_true rfl) rfl (Or.inr ⟨pm_N170_ini, rfl, rfl⟩) rfl rfl ?_
  refine pm_R_lo pm_M170 (pc' := 70) rfl rfl rfl ?_
  refine pm_R_op pm_M170 (pc' := 73) (st' := [.int 200, .ref 41]) rfl rfl rfl ?_
  refine pm_R_newa pm_M170 (pc' := 75) (N := 200) rfl rfl (by decide) rfl (Nat.le_of_ble_eq_true rfl) rfl ?_
  show pm_R _ 170 75 [.ref 41] [.ref 50, .ref 41] _ _
  refine pm_R_put pm_M170 (pc' := 78) (fs' := [.int 0, .ref 42, .ref 43, .ref 44, .ref 45, .ref 46, .ref 47, .ref 48, .ref 49, .ref 50, .int 0, .int 0, .int 0, .int 0, .int 0, .long 0, .int 0, .int 0, .int 0, .null, .null, .int 0, .int 0, .int 0, .int 0, .null, .int 0, .int 0, .null, .null, .null, .int 0, .null, .null, .null, .null, .null, .null, .null, .null, .null, .null, .int 0, .int 0, .int 0, .null, .null, .int 0, .null, .int 0, .int 0, .null, .null]) rfl rfl rfl rfl (Nat.le_of_ble_eq_true rfl) (Nat.le_of_ble_eq_true rfl) (Nat.le_of_ble_eq_true rfl) rfl (Or.inr ⟨pm_N170_ini, rfl, rfl⟩) rfl rfl ?_
  refine pm_R_lo pm_M170 (pc' := 79) rfl rfl rfl ?_
  refine pm_R_op pm_M170 (pc' := 82) (st' := [.int 152, .ref 41]) rfl rfl rfl ?_
  refine pm_R_newa pm_M170 (pc' := 84) (N := 152) rfl rfl (by decide) rfl (Nat.le_of_ble_eq_true rfl) rfl ?_
  show pm_R _ 170 84 [.ref 41] [.ref 51, .ref 41] _ _
  refine pm_R_put pm_M170 (pc' := 87) (fs' := [.int 0, .ref 42, .ref 43, .ref 44, .ref 45, .ref 46, .ref 47, .ref 48, .ref 49, .ref 50, .int 0, .int 0, .int 0, .int 0, .int 0, .long 0, .int 0, .int 0, .int 0, .ref 51, .null, .int 0, .int 0, .int 0, .int 0, .null, .int 0, .int 0, .null, .null, .null, .int 0, .null, .null, .null, .null, .null, .null, .null, .null, .null, .null, .int 0, .int 0, .int 0, .null, .null, .int 0, .null, .int 0, .int 0, .null, .null]) rfl rfl rfl rfl (Nat.le_of_ble_eq_true rfl) (Nat.le_of_ble_eq_true rfl) (Nat.le_of_ble_eq_true rfl) rfl (Or.inr ⟨pm_N170_ini, rfl, rfl⟩) rfl rfl ?_
  refine pm_R_lo pm_M170 (pc' := 88) rfl rfl rfl ?_
  refine pm_R_op pm_M170 (pc' := 89) (st' := [.int 4, .ref 41]) rfl rfl rfl ?_
  refine pm_R_newa pm_M170 (pc' := 91) (N := 4) rfl rfl (by decide) rfl (Nat.le_of_ble_eq_true rfl) rfl ?_
  show pm_R _ 170 91 [.ref 41] [.ref 52, .ref 41] _ _
  refine pm_R_put pm_M170 (pc' := 94) (fs' := [.int 0, .ref 42, .ref 43, .ref 44, .ref 45, .ref 46, .ref 47, .ref 48, .ref 49, .ref 50, .int 0, .int 0, .int 0, .int 0, .int 0, .long 0, .int 0, .int 0, .int 0, .ref 51, .ref 52, .int 0, .int 0, .int 0, .int 0, .null, .int 0, .int 0, .null, .null, .null, .int 0, .null, .null, .null, .null, .null, .null, .null, .null, .null, .null, .int 0, .int 0, .int 0, .null, .null, .int 0, .null, .int 0, .int 0, .null, .null]) rfl rfl rfl rfl (Nat.le_of_ble_eq_true rfl) (Nat.le_of_ble_eq_true rfl) (Nat.le_of_ble_eq_true rfl) rfl (Or.inr ⟨pm_N170_ini, rfl, rfl⟩) rfl rfl ?_
  refine pm_R_lo pm_M170 (pc' := 95) rfl rfl rfl ?_
  refine pm_R_op pm_M170 (pc' := 97) (st' := [.int 12, .ref 41]) rfl rfl rfl ?_
  refine pm_R_newa pm_M170 (pc' := 99) (N := 12) rfl rfl (by decide) rfl (Nat.le_of_ble_eq_true rfl) rfl ?_
  show pm_R _ 170 99 [.ref 41] [.ref 53, .ref 41] _ _
  refine pm_R_put pm_M170 (pc' := 102) (fs' := [.int 0, .ref 42, .ref 43, .ref 44, .ref 45, .ref 46, .ref 47, .ref 48, .ref 49, .ref 50, .int 0, .int 0, .int 0, .int 0, .int 0, .long 0, .int 0, .int 0, .int 0, .ref 51, .ref 52, .int 0, .int 0, .int 0, .int 0, .ref 53, .int 0, .int 0, .null, .null, .null, .int 0, .null, .null, .null, .null, .null, .null, .null, .null, .null, .null, .int 0, .int 0, .int 0, .null, .null, .int 0, .null, .int 0, .int 0, .null, .null]) rfl rfl rfl rfl (Nat.le_of_ble_eq_true rfl) (Nat.le_of_ble_eq_true rfl) (Nat.le_of_ble_eq_true rfl) rfl (Or.inr ⟨pm_N170_ini, rfl, rfl⟩) rfl rfl ?_
  refine pm_R_lo pm_M170 (pc' := 103) rfl rfl rfl ?_
  refine pm_R_op pm_M170 (pc' := 106) (st' := [.int 864, .ref 41]) rfl rfl rfl ?_
  refine pm_R_newa pm_M170 (pc' := 108) (N := 864) rfl rfl (by decide) rfl (Nat.le_of_ble_eq_true rfl) rfl ?_
  show pm_R _ 170 108 [.ref 41] [.ref 54, .ref 41] _ _
  refine pm_R_put pm_M170 (pc' := 111) (fs' := [.int 0, .ref 42, .ref 43, .ref 44, .ref 45, .ref 46, .ref 47, .ref 48, .ref 49, .ref 50, .int 0, .int 0, .int 0, .int 0, .int 0, .long 0, .int 0, .int 0, .int 0, .ref 51, .ref 52, .int 0, .int 0, .int 0, .int 0, .ref 53, .int 0, .int 0, .ref 54, .null, .null, .int 0, .null, .null, .null, .null, .null, .null, .null, .null, .null, .null, .int 0, .int 0, .int 0, .null, .null, .int 0, .null, .int 0, .int 0, .null, .null]) rfl rfl rfl rfl (Nat.le_of_ble_eq_true rfl) (Nat.le_of_ble_eq_true rfl) (Nat.le_of_ble_eq_true rfl) rfl (Or.inr ⟨pm_N170_ini, rfl, rfl⟩) rfl rfl ?_
  refine pm_R_lo pm_M170 (pc' := 112) rfl rfl rfl ?_
  refine pm_R_op pm_M170 (pc' := 115) (st' := [.int 864, .ref 41]) rfl rfl rfl ?_
  refine pm_R_newa pm_M170 (pc' := 117) (N := 864) rfl rfl (by decide) rfl (Nat.le_of_ble_eq_true rfl) rfl ?_
  show pm_R _ 170 117 [.ref 41] [.ref 55, .ref 41] _ _
  refine pm_R_put pm_M170 (pc' := 120) (fs' := [.int 0, .ref 42, .ref 43, .ref 44, .ref 45, .ref 46, .ref 47, .ref 48, .ref 49, .ref 50, .int 0, .int 0, .int 0, .int 0, .int 0, .long 0, .int 0, .int 0, .int 0, .ref 51, .ref 52, .int 0, .int 0, .int 0, .int 0, .ref 53, .int 0, .int 0, .ref 54, .ref 55, .null, .int 0, .null, .null, .null, .null, .null, .null, .null, .null, .null, .null, .int 0, .int 0, .int 0, .null, .null, .int 0, .null, .int 0, .int 0, .null, .null]) rfl rfl rfl rfl (Nat.le_of_ble_eq_true rfl) (Nat.le_of_ble_eq_true rfl) (Nat.le_of_ble_eq_true rfl) rfl (Or.inr ⟨pm_N170_ini, rfl, rfl⟩) rfl rfl ?_
  refine pm_R_lo pm_M170 (pc' := 121) rfl rfl rfl ?_
  refine pm_R_ldc pm_M170 (pc' := 123) rfl rfl rfl ?_
  refine pm_R_newa pm_M170 (pc' := 125) (N := 43200) rfl rfl (by decide) rfl (Nat.le_of_ble_eq_true rfl) rfl ?_
  show pm_R _ 170 125 [.ref 41] [.ref 56, .ref 41] _ _
  refine pm_R_put pm_M170 (pc' := 128) (fs' := [.int 0, .ref 42, .ref 43, .ref 44, .ref 45, .ref 46, .ref 47, .ref 48, .ref 49, .ref 50, .int 0, .int 0, .int 0, .int 0, .int 0, .long 0, .int 0, .int 0, .int 0, .ref 51, .ref 52, .int 0, .int 0, .int 0, .int 0, .ref 53, .int 0, .int 0, .ref 54, .ref 55, .ref 56, .int 0, .null, .null, .null, .null, .null, .null, .null, .null, .null, .null, .int 0, .int 0, .int 0, .null, .null, .int 0, .null, .int 0, .int 0, .null, .null]) rfl rfl rfl rfl (Nat.le_of_ble_eq_true rfl) (Nat.le_of_ble_eq_true rfl) (Nat.le_of_ble_eq_true rfl) rfl (Or.inr ⟨pm_N170_ini, rfl, rfl⟩) rfl rfl ?_
  refine pm_R_lo pm_M170 (pc' := 129) rfl rfl rfl ?_
  refine pm_R_op pm_M170 (pc' := 131) (st' := [.int 24, .ref 41]) rfl rfl rfl ?_
  refine pm_R_newa pm_M170 (pc' := 133) (N := 24) rfl rfl (by decide) rfl (Nat.le_of_ble_eq_true rfl) rfl ?_
  show pm_R _ 170 133 [.ref 41] [.ref 57, .ref 41] _ _
  refine pm_R_put pm_M170 (pc' := 136) (fs' := [.int 0, .ref 42, .ref 43, .ref 44, .ref 45, .ref 46, .ref 47, .ref 48, .ref 49, .ref 50, .int 0, .int 0, .int 0, .int 0, .int 0, .long 0, .int 0, .int 0, .int 0, .ref 51, .ref 52, .int 0, .int 0, .int 0, .int 0, .ref 53, .int 0, .int 0, .ref 54, .ref 55, .ref 56, .int 0, .ref 57, .null, .null, .null, .null, .null, .null, .null, .null, .null, .int 0, .int 0, .int 0, .null, .null, .int 0, .null, .int 0, .int 0, .null, .null]) rfl rfl rfl rfl (Nat.le_of_ble_eq_true rfl) (Nat.le_of_ble_eq_true rfl) (Nat.le_of_ble_eq_true rfl) rfl (Or.inr ⟨pm_N170_ini, rfl, rfl⟩) rfl rfl ?_
  refine pm_R_lo pm_M170 (pc' := 137) rfl rfl rfl ?_
  refine pm_R_op pm_M170 (pc' := 139) (st' := [.int 24, .ref 41]) rfl rfl rfl ?_
  refine pm_R_newa pm_M170 (pc' := 141) (N := 24) rfl rfl (by decide) rfl (Nat.le_of_ble_eq_true rfl) rfl ?_
  show pm_R _ 170 141 [.ref 41] [.ref 58, .ref 41] _ _
  refine pm_R_put pm_M170 (pc' := 144) (fs' := [.int 0, .ref 42, .ref 43, .ref 44, .ref 45, .ref 46, .ref 47, .ref 48, .ref 49, .ref 50, .int 0, .int 0, .int 0, .int 0, .int 0, .long 0, .int 0, .int 0, .int 0, .ref 51, .ref 52, .int 0, .int 0, .int 0, .int 0, .ref 53, .int 0, .int 0, .ref 54, .ref 55, .ref 56, .int 0, .ref 57, .ref 58, .null, .null, .null, .null, .null, .null, .null, .null, .int 0, .int 0, .int 0, .null, .null, .int 0, .null, .int 0, .int 0, .null, .null]) rfl rfl rfl rfl (Nat.le_of_ble_eq_true rfl) (Nat.le_of_ble_eq_true rfl) (Nat.le_of_ble_eq_true rfl) rfl (Or.inr ⟨pm_N170_ini, rfl, rfl⟩) rfl rfl ?_
  refine pm_R_lo pm_M170 (pc' := 145) rfl rfl rfl ?_
  refine pm_R_op pm_M170 (pc' := 147) (st' := [.int 24, .ref 41]) rfl rfl rfl ?_
  refine pm_R_newa pm_M170 (pc' := 149) (N := 24) rfl rfl (by decide) rfl (Nat.le_of_ble_eq_true rfl) rfl ?_
  show pm_R _ 170 149 [.ref 41] [.ref 59, .ref 41] _ _
  refine pm_R_put pm_M170 (pc' := 152) (fs' := [.int 0, .ref 42, .ref 43, .ref 44, .ref 45, .ref 46, .ref 47, .ref 48, .ref 49, .ref 50, .int 0, .int 0, .int 0, .int 0, .int 0, .long 0, .int 0, .int 0, .int 0, .ref 51, .ref 52, .int 0, .int 0, .int 0, .int 0, .ref 53, .int 0, .int 0, .ref 54, .ref 55, .ref 56, .int 0, .ref 57, .ref 58, .ref 59, .null, .null, .null, .null, .null, .null, .null, .int 0, .int 0, .int 0, .null, .null, .int 0, .null, .int 0, .int 0, .null, .null]) rfl rfl rfl rfl (Nat.le_of_ble_eq_true rfl) (Nat.le_of_ble_eq_true rfl) (Nat.le_of_ble_eq_true rfl) rfl (Or.inr ⟨pm_N170_ini, rfl, rfl⟩) rfl rfl ?_
  refine pm_R_lo pm_M170 (pc' := 153) rfl rfl rfl ?_
  refine pm_R_op pm_M170 (pc' := 155) (st' := [.int 24, .ref 41]) rfl rfl rfl ?_
  refine pm_R_newa pm_M170 (pc' := 157) (N := 24) rfl rfl (by decide) rfl (Nat.le_of_ble_eq_true rfl) rfl ?_
  show pm_R _ 170 157 [.ref 41] [.ref 60, .ref 41] _ _
  refine pm_R_put pm_M170 (pc' := 160) (fs' := [.int 0, .ref 42, .ref 43, .ref 44, .ref 45, .ref 46, .ref 47, .ref 48, .ref 49, .ref 50, .int 0, .int 0, .int 0, .int 0, .int 0, .long 0, .int 0, .int 0, .int 0, .ref 51, .ref 52, .int 0, .int 0, .int 0, .int 0, .ref 53, .int 0, .int 0, .ref 54, .ref 55, .ref 56, .int 0, .ref 57, .ref 58, .ref 59, .ref 60, .null, .null, .null, .null, .null, .null, .int 0, .int 0, .int 0, .null, .null, .int 0, .null, .int 0, .int 0, .null, .null]) rfl rfl rfl rfl (Nat.le_of_ble_eq_true rfl) (Nat.le_of_ble_eq_true rfl) (Nat.le_of_ble_eq_true rfl) rfl (Or.inr ⟨pm_N170_ini, rfl, rfl⟩) rfl rfl ?_
  refine pm_R_lo pm_M170 (pc' := 161) rfl rfl rfl ?_
  refine pm_R_op pm_M170 (pc' := 163) (st' := [.int 24, .ref 41]) rfl rfl rfl ?_
  refine pm_R_newa pm_M170 (pc' := 165) (N := 24) rfl rfl (by decide) rfl (Nat.le_of_ble_eq_true rfl) rfl ?_
  show pm_R _ 170 165 [.ref 41] [.ref 61, .ref 41] _ _
  refine pm_R_put pm_M170 (pc' := 168) (fs' := [.int 0, .ref 42, .ref 43, .ref 44, .ref 45, .ref 46, .ref 47, .ref 48, .ref 49, .ref 50, .int 0, .int 0, .int 0, .int 0, .int 0, .long 0, .int 0, .int 0, .int 0, .ref 51, .ref 52, .int 0, .int 0, .int 0, .int 0, .ref 53, .int 0, .int 0, .ref 54, .ref 55, .ref 56, .int 0, .ref 57, .ref 58, .ref 59, .ref 60, .ref 61, .null, .null, .null, .null, .null, .int 0, .int 0, .int 0, .null, .null, .int 0, .null, .int 0, .int 0, .null, .null]) rfl rfl rfl rfl (Nat.le_of_ble_eq_true rfl) (Nat.le_of_ble_eq_true rfl) (Nat.le_of_ble_eq_true rfl) rfl (Or.inr ⟨pm_N170_ini, rfl, rfl⟩) rfl rfl ?_
  refine pm_R_lo pm_M170 (pc' := 169) rfl rfl rfl ?_
  refine pm_R_op pm_M170 (pc' := 171) (st' := [.int 24, .ref 41]) rfl rfl rfl ?_
  refine pm_R_newa pm_M170 (pc' := 173) (N := 24) rfl rfl (by decide) rfl (Nat.le_of_ble_eq_true rfl) rfl ?_
  show pm_R _ 170 173 [.ref 41] [.ref 62, .ref 41] _ _
  refine pm_R_put pm_M170 (pc' := 176) (fs' := [.int 0, .ref 42, .ref 43, .ref 44, .ref 45, .ref 46, .ref 47, .ref 48, .ref 49, .ref 50, .int 0, .int 0, .int 0, .int 0, .int 0, .long 0, .int 0, .int 0, .int 0, .ref 51, .ref 52, .int 0, .int 0, .int 0, .int 0, .ref 53, .int 0, .int 0, .ref 54, .ref 55, .ref 56, .int 0, .ref 57, .ref 58, .ref 59, .ref 60, .ref 61, .ref 62, .null, .null, .null, .null, .int 0, .int 0, .int 0, .null, .null, .int 0, .null, .int 0, .int 0, .null, .null]) rfl rfl rfl rfl (Nat.le_of_ble_eq_true rfl) (Nat.le_of_ble_eq_true rfl) (Nat.le_of_ble_eq_true rfl) rfl (Or.inr ⟨pm_N170_ini, rfl, rfl⟩) rfl rfl ?_
  refine pm_R_lo pm_M170 (pc' := 177) rfl rfl rfl ?_
  refine pm_R_op pm_M170 (pc' := 179) (st' := [.int 24, .ref 41]) rfl rfl rfl ?_
  refine pm_R_newa pm_M170 (pc' := 181) (N := 24) rfl rfl (by decide) rfl (Nat.le_of_ble_eq_true rfl) rfl ?_
  show pm_R _ 170 181 [.ref 41] [.ref 63, .ref 41] _ _
  refine pm_R_put pm_M170 (pc' := 184) (fs' := [.int 0, .ref 42, .ref 43, .ref 44, .ref 45, .ref 46, .ref 47, .ref 48, .ref 49, .ref 50, .int 0, .int 0, .int 0, .int 0, .int 0, .long 0, .int 0, .int 0, .int 0, .ref 51, .ref 52, .int 0, .int 0, .int 0, .int 0, .ref 53, .int 0, .int 0, .ref 54, .ref 55, .ref 56, .int 0, .ref 57, .ref 58, .ref 59, .ref 60, .ref 61, .ref 62, .ref 63, .null, .null, .null, .int 0, .int 0, .int 0, .null, .null, .int 0, .null, .int 0, .int 0, .null, .null]) rfl rfl rfl rfl (Nat.le_of_ble_eq_true rfl) (Nat.le_of_ble_eq_true rfl) (Nat.le_of_ble_eq_true rfl) rfl (Or.inr ⟨pm_N170_ini, rfl, rfl⟩) rfl rfl ?_
  refine pm_R_lo pm_M170 (pc' := 185) rfl rfl rfl ?_
  refine pm_R_op pm_M170 (pc' := 187) (st' := [.int 24, .ref 41]) rfl rfl rfl ?_
  refine pm_R_newa pm_M170 (pc' := 189) (N := 24) rfl rfl (by decide) rfl (Nat.le_of_ble_eq_true rfl) rfl ?_
  show pm_R _ 170 189 [.ref 41] [.ref 64, .ref 41] _ _
  refine pm_R_put pm_M170 (pc' := 192) (fs' := [.int 0, .ref 42, .ref 43, .ref 44, .ref 45, .ref 46, .ref 47, .ref 48, .ref 49, .ref 50, .int 0, .int 0, .int 0, .int 0, .int 0, .long 0, .int 0, .int 0, .int 0, .ref 51, .ref 52, .int 0, .int 0, .int 0, .int 0, .ref 53, .int 0, .int 0, .ref 54, .ref 55, .ref 56, .int 0, .ref 57, .ref 58, .ref 59, .ref 60, .ref 61, .ref 62, .ref 63, .ref 64, .null, .null, .int 0, .int 0, .int 0, .null, .null, .int 0, .null, .int 0, .int 0, .null, .null]) rfl rfl rfl rfl (Nat.le_of_ble_eq_true rfl) (Nat.le_of_ble_eq_true rfl) (Nat.le_of_ble_eq_true rfl) rfl (Or.inr ⟨pm_N170_ini, rfl, rfl⟩) rfl rfl ?_
  refine pm_R_lo pm_M170 (pc' := 193) rfl rfl rfl ?_
  refine pm_R_op pm_M170 (pc' := 195) (st' := [.int 12, .ref 41]) rfl rfl rfl ?_
  refine pm_R_newa pm_M170 (pc' := 197) (N := 12) rfl rfl (by decide) rfl (Nat.le_of_ble_eq_true rfl) rfl ?_
  show pm_R _ 170 197 [.ref 41] [.ref 65, .ref 41] _ _
  refine pm_R_put pm_M170 (pc' := 200) (fs' := [.int 0, .ref 42, .ref 43, .ref 44, .ref 45, .ref 46, .ref 47, .ref 48, .ref 49, .ref 50, .int 0, .int 0, .int 0, .int 0, .int 0, .long 0, .int 0, .int 0, .int 0, .ref 51, .ref 52, .int 0, .int 0, .int 0, .int 0, .ref 53, .int 0, .int 0, .ref 54, .ref 55, .ref 56, .int 0, .ref 57, .ref 58, .ref 59, .ref 60, .ref 61, .ref 62, .ref 63, .ref 64, .ref 65, .null, .int 0, .int 0, .int 0, .null, .null, .int 0, .null, .int 0, .int 0, .null, .null]) rfl rfl rfl rfl (Nat.le_of_ble_eq_true rfl) (Nat.le_of_ble_eq_true rfl) (Nat.le_of_ble_eq_true rfl) rfl (Or.inr ⟨pm_N170_ini, rfl, rfl⟩) rfl rfl ?_
  refine pm_R_lo pm_M170 (pc' := 201) rfl rfl rfl ?_
  refine pm_R_op pm_M170 (pc' := 202) (st' := [.int 5, .ref 41]) rfl rfl rfl ?_
  refine pm_R_newa pm_M170 (pc' := 204) (N := 5) rfl rfl (by decide) rfl (Nat.le_of_ble_eq_true rfl) rfl ?_
  show pm_R _ 170 204 [.ref 41] [.ref 66, .ref 41] _ _
  refine pm_R_put pm_M170 (pc' := 207) (fs' := [.int 0, .ref 42, .ref 43, .ref 44, .ref 45, .ref 46, .ref 47, .ref 48, .ref 49, .ref 50, .int 0, .int 0, .int 0, .int 0, .int 0, .long 0, .int 0, .int 0, .int 0, .ref 51, .ref 52, .int 0, .int 0, .int 0, .int 0, .ref 53, .int 0, .int 0, .ref 54, .ref 55, .ref 56, .int 0, .ref 57, .ref 58, .ref 59, .ref 60, .ref 61, .ref 62, .ref 63, .ref 64, .ref 65, .ref 66, .int 0, .int 0, .int 0, .null, .null, .int 0, .null, .int 0, .int 0, .null, .null]) rfl rfl rfl rfl (Nat.le_of_ble_eq_true rfl) (Nat.le_of_ble_eq_true rfl) (Nat.le_of_ble_eq_true rfl) rfl (Or.inr ⟨pm_N170_ini, rfl, rfl⟩) rfl rfl ?_
  refine pm_R_lo pm_M170 (pc' := 208) rfl rfl rfl ?_
  refine pm_R_op pm_M170 (pc' := 211) (st' := [.int 306, .ref 41]) rfl rfl rfl ?_
  refine pm_R_newa pm_M170 (pc' := 213) (N := 306) rfl rfl (by decide) rfl (Nat.le_of_ble_eq_true rfl) rfl ?_
  show pm_R _ 170 213 [.ref 41] [.ref 67, .ref 41] _ _
  refine pm_R_put pm_M170 (pc' := 216) (fs' := [.int 0, .ref 42, .ref 43, .ref 44, .ref 45, .ref 46, .ref 47, .ref 48, .ref 49, .ref 50, .int 0, .int 0, .int 0, .int 0, .int 0, .long 0, .int 0, .int 0, .int 0, .ref 51, .ref 52, .int 0, .int 0, .int 0, .int 0, .ref 53, .int 0, .int 0, .ref 54, .ref 55, .ref 56, .int 0, .ref 57, .ref 58, .ref 59, .ref 60, .ref 61, .ref 62, .ref 63, .ref 64, .ref 65, .ref 66, .int 0, .int 0, .int 0, .ref 67, .null, .int 0, .null, .int 0, .int 0, .null, .null]) rfl rfl rfl rfl (Nat.le_of_ble_eq_true rfl) (Nat.le_of_ble_eq_true rfl) (Nat.le_of_ble_eq_true rfl) rfl (Or.inr ⟨pm_N170_ini, rfl, rfl⟩) rfl rfl ?_
  refine pm_R_lo pm_M170 (pc' := 217) rfl rfl rfl ?_
  refine pm_R_op pm_M170 (pc' := 219) (st' := [.int 50, .ref 41]) rfl rfl rfl ?_
  refine pm_R_newa pm_M170 (pc' := 221) (N := 50) rfl rfl (by decide) rfl (Nat.le_of_ble_eq_true rfl) rfl ?_
  show pm_R _ 170 221 [.ref 41] [.ref 68, .ref 41] _ _
  refine pm_R_put pm_M170 (pc' := 224) (fs' := [.int 0, .ref 42, .ref 43, .ref 44, .ref 45, .ref 46, .ref 47, .ref 48, .ref 49, .ref 50, .int 0, .int 0, .int 0, .int 0, .int 0, .long 0, .int 0, .int 0, .int 0, .ref 51, .ref 52, .int 0, .int 0, .int 0, .int 0, .ref 53, .int 0, .int 0, .ref 54, .ref 55, .ref 56, .int 0, .ref 57, .ref 58, .ref 59, .ref 60, .ref 61, .ref 62, .ref 63, .ref 64, .ref 65, .ref 66, .int 0, .int 0, .int 0, .ref 67, .ref 68, .int 0, .null, .int 0, .int 0, .null, .null]) rfl rfl rfl rfl (Nat.le_of_ble_eq_true rfl) (Nat.le_of_ble_eq_true rfl) (Nat.le_of_ble_eq_true rfl) rfl (Or.inr ⟨pm_N170_ini, rfl, rfl⟩) rfl rfl ?_
  refine pm_R_lo pm_M170 (pc' := 225) rfl rfl rfl ?_
  refine pm_R_op pm_M170 (pc' := 227) (st' := [.int 50, .ref 41]) rfl rfl rfl ?_
  refine pm_R_newa pm_M170 (pc' := 229) (N := 50) rfl rfl (by decide) rfl (Nat.le_of_ble_eq_true rfl) rfl ?_
  show pm_R _ 170 229 [.ref 41] [.ref 69, .ref 41] _ _
  refine pm_R_put pm_M170 (pc' := 232) (fs' := [.int 0, .ref 42, .ref 43, .ref 44, .ref 45, .ref 46, .ref 47, .ref 48, .ref 49, .ref 50, .int 0, .int 0, .int 0, .int 0, .int 0, .long 0, .int 0, .int 0, .int 0, .ref 51, .ref 52, .int 0, .int 0, .int 0, .int 0, .ref 53, .int 0, .int 0, .ref 54, .ref 55, .ref 56, .int 0, .ref 57, .ref 58, .ref 59, .ref 60, .ref 61, .ref 62, .ref 63, .ref 64, .ref 65, .ref 66, .int 0, .int 0, .int 0, .ref 67, .ref 68, .int 0, .ref 69, .int 0, .int 0, .null, .null]) rfl rfl rfl rfl (Nat.le_of_ble_eq_true rfl) (Nat.le_of_ble_eq_true rfl) (Nat.le_of_ble_eq_true rfl) rfl (Or.inr ⟨pm_N170_ini, rfl, rfl⟩) rfl rfl ?_
  refine pm_R_lo pm_M170 (pc' := 233) rfl rfl rfl ?_
  refine pm_R_op pm_M170 (pc' := 235) (st' := [.int 12, .ref 41]) rfl rfl rfl ?_
  refine pm_R_newa pm_M170 (pc' := 237) (N := 12) rfl rfl (by decide) rfl (Nat.le_of_ble_eq_true rfl) rfl ?_
  show pm_R _ 170 237 [.ref 41] [.ref 70, .ref 41] _ _
  refine pm_R_put pm_M170 (pc' := 240) (fs' := [.int 0, .ref 42, .ref 43, .ref 44, .ref 45, .ref 46, .ref 47, .ref 48, .ref 49, .ref 50, .int 0, .int 0, .int 0, .int 0, .int 0, .long 0, .int 0, .int 0, .int 0, .ref 51, .ref 52, .int 0, .int 0, .int 0, .int 0, .ref 53, .int 0, .int 0, .ref 54, .ref 55, .ref 56, .int 0, .ref 57, .ref 58, .ref 59, .ref 60, .ref 61, .ref 62, .ref 63, .ref 64, .ref 65, .ref 66, .int 0, .int 0, .int 0, .ref 67, .ref 68, .int 0, .ref 69, .int 0, .int 0, .ref 70, .null]) rfl rfl rfl rfl (Nat.le_of_ble_eq_true rfl) (Nat.le_of_ble_eq_true rfl) (Nat.le_of_ble_eq_true rfl) rfl (Or.inr ⟨pm_N170_ini, rfl, rfl⟩) rfl rfl ?_
  refine pm_R_lo pm_M170 (pc' := 241) rfl rfl rfl ?_
  refine pm_R_op pm_M170 (pc' := 242) (st' := [.int 3, .ref 41]) rfl rfl rfl ?_
  refine pm_R_newa pm_M170 (pc' := 244) (N := 3) rfl rfl (by decide) rfl (Nat.le_of_ble_eq_true rfl) rfl ?_
  show pm_R _ 170 244 [.ref 41] [.ref 71, .ref 41] _ _
  refine pm_R_put pm_M170 (pc' := 247) (fs' := [.int 0, .ref 42, .ref 43, .ref 44, .ref 45, .ref 46, .ref 47, .ref 48, .ref 49, .ref 50, .int 0, .int 0, .int 0, .int 0, .int 0, .long 0, .int 0, .int 0, .int 0, .ref 51, .ref 52, .int 0, .int 0, .int 0, .int 0, .ref 53, .int 0, .int 0, .ref 54, .ref 55, .ref 56, .int 0, .ref 57, .ref 58, .ref 59, .ref 60, .ref 61, .ref 62, .ref 63, .ref 64, .ref 65, .ref 66, .int 0, .int 0, .int 0, .ref 67, .ref 68, .int 0, .ref 69, .int 0, .int 0, .ref 70, .ref 71]) rfl rfl rfl rfl (Nat.le_of_ble_eq_true rfl) (Nat.le_of_ble_eq_true rfl) (Nat.le_of_ble_eq_true rfl) rfl (Or.inr ⟨pm_N170_ini, rfl, rfl⟩) rfl rfl ?_
  refine pm_R_lo pm_M170 (pc' := 248) rfl rfl rfl ?_
  refine pm_R_get pm_M170 (pc' := 251) (v := .ref 45) rfl rfl rfl (Nat.le_of_ble_eq_true rfl) (Nat.le_of_ble_eq_true rfl) rfl rfl ?_
  refine pm_R_op pm_M170 (pc' := 252) (st' := [.int 0, .ref 45]) rfl rfl rfl ?_
  refine pm_R_op pm_M170 (pc' := 253) (st' := [.int (-1), .int 0, .ref 45]) rfl rfl rfl ?_
  refine pm_R_iast pm_M170 (pc' := 254) rfl rfl (Nat.le_of_ble_eq_true rfl) (Nat.le_of_ble_eq_true rfl) rfl rfl ?_
  refine pm_R_ret pm_M170 (r := none) rfl rfl ?_
  show pm_R _ 0 15 [.ref 0, .ref 16, pm_no, pm_no] [.ref 41] _ _
  refine pm_R_lo pm_M0 (pc' := 16) (ls' := [.ref 0, .ref 16, .ref 41, pm_no]) (st' := []) rfl rfl rfl ?_
  refine pm_R_op pm_M0 (pc' := 17) (st' := [.int 0]) rfl rfl rfl ?_
  refine pm_R_lo pm_M0 (pc' := 18) (ls' := [.ref 0, .ref 16, .ref 41, .int 0]) (st' := []) rfl rfl rfl ?_
  exact hK _ (fun i hi => by
    match i, hi with
    | 0, _ => rfl
    | 1, _ => rfl
    | 2, _ => rfl
    | 3, _ => rfl
    | 4, _ => rfl
    | 5, _ => rfl
    | 6, _ => rfl
    | 7, _ => rfl
    | 8, _ => rfl
    | 9, _ => rfl
    | 10, _ => rfl
    | 11, _ => rfl
    | 12, _ => rfl
    | 13, _ => rfl
    | 14, _ => rfl
    | 15, _ => rfl
    | 16, _ => rfl
    | 17, _ => rfl
    | 18, _ => rfl
    | 19, _ => rfl
    | 20, _ => rfl
    | 21, _ => rfl
    | 22, _ => rfl
    | 23, _ => rfl
    | 24, _ => rfl
    | 25, _ => rfl
    | 26, _ => rfl
    | 27, _ => rfl
    | 28, _ => rfl
    | 29, _ => rfl
    | 30, _ => rfl
    | 31, _ => rfl
    | 32, _ => rfl
    | 33, _ => rfl
    | 34, _ => rfl
    | 35, _ => rfl
    | 36, _ => rfl
    | 37, _ => rfl
    | 38, _ => rfl
    | 39, _ => rfl
    | 40, _ => rfl
    | 41, _ => rfl
    | 42, _ => rfl
    | 43, _ => rfl
    | 44, _ => rfl
    | 45, _ => rfl
    | 46, _ => rfl
    | 47, _ => rfl
    | 48, _ => rfl
    | 49, _ => rfl
    | 50, _ => rfl
    | 51, _ => rfl
    | 52, _ => rfl
    | 53, _ => rfl
    | 54, _ => rfl
    | 55, _ => rfl
    | 56, _ => rfl
    | 57, _ => rfl
    | 58, _ => rfl
    | 59, _ => rfl
    | 60, _ => rfl
    | 61, _ => rfl
    | 62, _ => rfl
    | 63, _ => rfl
    | 64, _ => rfl
    | 65, _ => rfl
    | 66, _ => rfl
    | 67, _ => rfl
    | 68, _ => rfl
    | 69, _ => rfl
    | 70, _ => rfl
    | 71, _ => rfl
    | n + 72, h => exact absurd h (by omega))
