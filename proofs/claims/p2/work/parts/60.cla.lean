section
/-! images: made, taken, given back -/
variable {d : Nat} {h : pm_H} {Q : Option Value → pm_H → Prop} {ck : cl_K} {E : Nat → pm_E} {m : Nat → Int32} {o : Nat → Option Nat}
set_option maxHeartbeats 4000000 in
theorem cl_x2 {t : Nat} (e1c : h.2.2 1 = .inl (0, 4, .inl (fun j => pm_sv1.getD j 0))) (et : h.2.2 t = .inr (8, [.null, .int 0, .int 0, .int 0, .null, .null, .null, .null, .null])) (h72 : 72 ≤ t) (ht : h.1 = t + 1) (K : ∀ h' : pm_H, h'.1 = t + 7 → h'.2.1 = h.2.1 + 600 + 2 + 3 + 2 + 2 + 4 → (∀ b, b < t → h'.2.2 b = h.2.2 b) → h'.2.2 t = .inr (8, [.ref (t + 1), .int 0, .int 0, .int (-1), .ref (t + 2), .ref (t + 3), .ref (t + 4), .ref (t + 5), .ref (t + 6)]) → h'.2.2 (t + 1) = .inl (2, 600, .inl (fun _ => (0 : Int32))) → h'.2.2 (t + 2) = .inl (4, 2, .inr (.inr (.inr (.inr (fun _ => none))))) → h'.2.2 (t + 3) = .inl (5, 3, .inr (.inr (.inr (.inr (fun _ => none))))) → h'.2.2 (t + 4) = .inl (6, 2, .inr (.inr (.inr (.inr (fun _ => none))))) → h'.2.2 (t + 5) = .inl (7, 2, .inr (.inr (.inr (.inr (fun _ => none))))) → h'.2.2 (t + 6) = .inl (0, 4, .inl (fun _ => (0 : Int32))) → Q none h') : pm_R (d + 0) 2 0 [.ref t] [] h Q := by
  refine pm_R_lo pm_M2 (pc' := 1) rfl rfl rfl ?_
  refine pm_R_obj pm_M2 (pc' := 4) rfl rfl rfl (Nat.le_of_ble_eq_true rfl) rfl ?_
  refine pm_R_lo pm_M2 (pc' := 5) rfl rfl rfl ?_
  refine pm_R_op pm_M2 (pc' := 8) (st' := [.int 600, .ref t]) rfl rfl rfl ?_
  refine pm_R_newa pm_M2 (pc' := 10) (N := 600) rfl rfl (by decide) rfl (Nat.le_of_ble_eq_true rfl) rfl ?_
  obtain ⟨h1, e1⟩ : ∃ z, pm_push h (.inl (2, pm_newty 2 600)) 600 = z := ⟨_, rfl⟩
  have a1 : h1.1 = t + 2 := by rw [← e1]; show h.1 + 1 = _; omega
  have s1 : h1.2.1 = h.2.1 + 600 := by rw [← e1]; rfl
  have o1 : ∀ b, b < t → h1.2.2 b = h.2.2 b := fun b hb => by rw [← e1, cl_push_lt (by omega)]
  have t1 : h1.2.2 t = .inr (8, [.null, .int 0, .int 0, .int 0, .null, .null, .null, .null, .null]) := by rw [← e1]; rw [cl_push_lt (by omega)]; exact et
  have c1_1 : h1.2.2 (t + 1) = .inl (2, 600, .inl (fun _ => (0 : Int32))) := by rw [← e1, ← ht]; exact cl_push_eq
  rw [e1, ht]
  refine pm_R_put pm_M2 (pc' := 13) (fs' := [.ref (t + 1), .int 0, .int 0, .int 0, .null, .null, .null, .null, .null]) rfl rfl rfl t1 (by omega) (by omega) (Nat.le_of_ble_eq_true rfl) rfl (Or.inr ⟨pm_N2_ini, rfl, rfl⟩) rfl rfl ?_
  obtain ⟨h2, e2⟩ : ∃ z, pm_set h1 t (.inr (8, [.ref (t + 1), .int 0, .int 0, .int 0, .null, .null, .null, .null, .null])) = z := ⟨_, rfl⟩
  have a2 : h2.1 = t + 2 := by rw [← e2]; exact a1
  have s2 : h2.2.1 = h.2.1 + 600 := by rw [← e2]; exact s1
  have o2 : ∀ b, b < t → h2.2.2 b = h.2.2 b := fun b hb => by rw [← e2, cl_set_ne (by omega)]; exact o1 b hb
  have t2 : h2.2.2 t = .inr (8, [.ref (t + 1), .int 0, .int 0, .int 0, .null, .null, .null, .null, .null]) := by rw [← e2]; exact cl_set_eq
  have c1_2 : h2.2.2 (t + 1) = .inl (2, 600, .inl (fun _ => (0 : Int32))) := by rw [← e2, cl_set_ne (by omega)]; exact c1_1
  rw [e2]
  refine pm_R_lo pm_M2 (pc' := 14) rfl rfl rfl ?_
  refine pm_R_op pm_M2 (pc' := 15) (st' := [.int 0, .ref t]) rfl rfl rfl ?_
  refine pm_R_put pm_M2 (pc' := 18) (fs' := [.ref (t + 1), .int 0, .int 0, .int 0, .null, .null, .null, .null, .null]) rfl rfl rfl t2 (by omega) (by omega) (Nat.le_of_ble_eq_true rfl) rfl (Or.inr ⟨pm_N2_ini, rfl, rfl⟩) rfl rfl ?_
  obtain ⟨h3, e3⟩ : ∃ z, pm_set h2 t (.inr (8, [.ref (t + 1), .int 0, .int 0, .int 0, .null, .null, .null, .null, .null])) = z := ⟨_, rfl⟩
  have a3 : h3.1 = t + 2 := by rw [← e3]; exact a2
  have s3 : h3.2.1 = h.2.1 + 600 := by rw [← e3]; exact s2
  have o3 : ∀ b, b < t → h3.2.2 b = h.2.2 b := fun b hb => by rw [← e3, cl_set_ne (by omega)]; exact o2 b hb
  have t3 : h3.2.2 t = .inr (8, [.ref (t + 1), .int 0, .int 0, .int 0, .null, .null, .null, .null, .null]) := by rw [← e3]; exact cl_set_eq
  have c1_3 : h3.2.2 (t + 1) = .inl (2, 600, .inl (fun _ => (0 : Int32))) := by rw [← e3, cl_set_ne (by omega)]; exact c1_2
  rw [e3]
  refine pm_R_lo pm_M2 (pc' := 19) rfl rfl rfl ?_
  refine pm_R_op pm_M2 (pc' := 20) (st' := [.int 0, .ref t]) rfl rfl rfl ?_
  refine pm_R_put pm_M2 (pc' := 23) (fs' := [.ref (t + 1), .int 0, .int 0, .int 0, .null, .null, .null, .null, .null]) rfl rfl rfl t3 (by omega) (by omega) (Nat.le_of_ble_eq_true rfl) rfl (Or.inr ⟨pm_N2_ini, rfl, rfl⟩) rfl rfl ?_
  obtain ⟨h4, e4⟩ : ∃ z, pm_set h3 t (.inr (8, [.ref (t + 1), .int 0, .int 0, .int 0, .null, .null, .null, .null, .null])) = z := ⟨_, rfl⟩
  have a4 : h4.1 = t + 2 := by rw [← e4]; exact a3
  have s4 : h4.2.1 = h.2.1 + 600 := by rw [← e4]; exact s3
  have o4 : ∀ b, b < t → h4.2.2 b = h.2.2 b := fun b hb => by rw [← e4, cl_set_ne (by omega)]; exact o3 b hb
  have t4 : h4.2.2 t = .inr (8, [.ref (t + 1), .int 0, .int 0, .int 0, .null, .null, .null, .null, .null]) := by rw [← e4]; exact cl_set_eq
  have c1_4 : h4.2.2 (t + 1) = .inl (2, 600, .inl (fun _ => (0 : Int32))) := by rw [← e4, cl_set_ne (by omega)]; exact c1_3
  rw [e4]
  refine pm_R_lo pm_M2 (pc' := 24) rfl rfl rfl ?_
  refine pm_R_op pm_M2 (pc' := 25) (st' := [.int (-1), .ref t]) rfl rfl rfl ?_
  refine pm_R_put pm_M2 (pc' := 28) (fs' := [.ref (t + 1), .int 0, .int 0, .int (-1), .null, .null, .null, .null, .null]) rfl rfl rfl t4 (by omega) (by omega) (Nat.le_of_ble_eq_true rfl) rfl (Or.inr ⟨pm_N2_ini, rfl, rfl⟩) rfl rfl ?_
  obtain ⟨h5, e5⟩ : ∃ z, pm_set h4 t (.inr (8, [.ref (t + 1), .int 0, .int 0, .int (-1), .null, .null, .null, .null, .null])) = z := ⟨_, rfl⟩
  have a5 : h5.1 = t + 2 := by rw [← e5]; exact a4
  have s5 : h5.2.1 = h.2.1 + 600 := by rw [← e5]; exact s4
  have o5 : ∀ b, b < t → h5.2.2 b = h.2.2 b := fun b hb => by rw [← e5, cl_set_ne (by omega)]; exact o4 b hb
  have t5 : h5.2.2 t = .inr (8, [.ref (t + 1), .int 0, .int 0, .int (-1), .null, .null, .null, .null, .null]) := by rw [← e5]; exact cl_set_eq
  have c1_5 : h5.2.2 (t + 1) = .inl (2, 600, .inl (fun _ => (0 : Int32))) := by rw [← e5, cl_set_ne (by omega)]; exact c1_4
  rw [e5]
  refine pm_R_lo pm_M2 (pc' := 29) rfl rfl rfl ?_
  refine pm_R_stat pm_M2 (pc' := 32) rfl rfl rfl ?_
  refine pm_R_op pm_M2 (pc' := 33) (st' := [.int 0, .ref 1, .ref t]) rfl rfl rfl ?_
  refine pm_R_iald pm_M2 (pc' := 34) (v := 2) rfl ((o5 1 (by omega)).trans e1c) (by omega) rfl rfl rfl ?_
  refine pm_R_newq pm_M2 (pc' := 37) (N := 2) rfl rfl rfl (by decide) rfl (Nat.le_of_ble_eq_true rfl) rfl ?_
  obtain ⟨h6, e6⟩ : ∃ z, pm_push h5 (.inl (4, pm_newty 4 2)) 2 = z := ⟨_, rfl⟩
  have a6 : h6.1 = t + 3 := by rw [← e6]; show h5.1 + 1 = _; omega
  have s6 : h6.2.1 = h.2.1 + 600 + 2 := by rw [← e6]; show h5.2.1 + _ = _; rw [s5]
  have o6 : ∀ b, b < t → h6.2.2 b = h.2.2 b := fun b hb => by rw [← e6, cl_push_lt (by omega)]; exact o5 b hb
  have t6 : h6.2.2 t = .inr (8, [.ref (t + 1), .int 0, .int 0, .int (-1), .null, .null, .null, .null, .null]) := by rw [← e6]; rw [cl_push_lt (by omega)]; exact t5
  have c1_6 : h6.2.2 (t + 1) = .inl (2, 600, .inl (fun _ => (0 : Int32))) := by rw [← e6, cl_push_lt (by omega)]; exact c1_5
  have c2_6 : h6.2.2 (t + 2) = .inl (4, 2, .inr (.inr (.inr (.inr (fun _ => none))))) := by rw [← e6, ← a5]; exact cl_push_eq
  rw [e6, a5]
  refine pm_R_put pm_M2 (pc' := 40) (fs' := [.ref (t + 1), .int 0, .int 0, .int (-1), .ref (t + 2), .null, .null, .null, .null]) rfl rfl rfl t6 (by omega) (by omega) (Nat.le_of_ble_eq_true rfl) rfl (Or.inr ⟨pm_N2_ini, rfl, rfl⟩) rfl rfl ?_
  obtain ⟨h7, e7⟩ : ∃ z, pm_set h6 t (.inr (8, [.ref (t + 1), .int 0, .int 0, .int (-1), .ref (t + 2), .null, .null, .null, .null])) = z := ⟨_, rfl⟩
  have a7 : h7.1 = t + 3 := by rw [← e7]; exact a6
  have s7 : h7.2.1 = h.2.1 + 600 + 2 := by rw [← e7]; exact s6
  have o7 : ∀ b, b < t → h7.2.2 b = h.2.2 b := fun b hb => by rw [← e7, cl_set_ne (by omega)]; exact o6 b hb
  have t7 : h7.2.2 t = .inr (8, [.ref (t + 1), .int 0, .int 0, .int (-1), .ref (t + 2), .null, .null, .null, .null]) := by rw [← e7]; exact cl_set_eq
  have c1_7 : h7.2.2 (t + 1) = .inl (2, 600, .inl (fun _ => (0 : Int32))) := by rw [← e7, cl_set_ne (by omega)]; exact c1_6
  have c2_7 : h7.2.2 (t + 2) = .inl (4, 2, .inr (.inr (.inr (.inr (fun _ => none))))) := by rw [← e7, cl_set_ne (by omega)]; exact c2_6
  rw [e7]
  refine pm_R_lo pm_M2 (pc' := 41) rfl rfl rfl ?_
  refine pm_R_stat pm_M2 (pc' := 44) rfl rfl rfl ?_
  refine pm_R_op pm_M2 (pc' := 45) (st' := [.int 1, .ref 1, .ref t]) rfl rfl rfl ?_
  refine pm_R_iald pm_M2 (pc' := 46) (v := 3) rfl ((o7 1 (by omega)).trans e1c) (by omega) rfl rfl rfl ?_
  refine pm_R_newq pm_M2 (pc' := 49) (N := 3) rfl rfl rfl (by decide) rfl (Nat.le_of_ble_eq_true rfl) rfl ?_
  obtain ⟨h8, e8⟩ : ∃ z, pm_push h7 (.inl (5, pm_newty 5 3)) 3 = z := ⟨_, rfl⟩
  have a8 : h8.1 = t + 4 := by rw [← e8]; show h7.1 + 1 = _; omega
  have s8 : h8.2.1 = h.2.1 + 600 + 2 + 3 := by rw [← e8]; show h7.2.1 + _ = _; rw [s7]
  have o8 : ∀ b, b < t → h8.2.2 b = h.2.2 b := fun b hb => by rw [← e8, cl_push_lt (by omega)]; exact o7 b hb
  have t8 : h8.2.2 t = .inr (8, [.ref (t + 1), .int 0, .int 0, .int (-1), .ref (t + 2), .null, .null, .null, .null]) := by rw [← e8]; rw [cl_push_lt (by omega)]; exact t7
  have c1_8 : h8.2.2 (t + 1) = .inl (2, 600, .inl (fun _ => (0 : Int32))) := by rw [← e8, cl_push_lt (by omega)]; exact c1_7
  have c2_8 : h8.2.2 (t + 2) = .inl (4, 2, .inr (.inr (.inr (.inr (fun _ => none))))) := by rw [← e8, cl_push_lt (by omega)]; exact c2_7
  have c3_8 : h8.2.2 (t + 3) = .inl (5, 3, .inr (.inr (.inr (.inr (fun _ => none))))) := by rw [← e8, ← a7]; exact cl_push_eq
  rw [e8, a7]
  refine pm_R_put pm_M2 (pc' := 52) (fs' := [.ref (t + 1), .int 0, .int 0, .int (-1), .ref (t + 2), .ref (t + 3), .null, .null, .null]) rfl rfl rfl t8 (by omega) (by omega) (Nat.le_of_ble_eq_true rfl) rfl (Or.inr ⟨pm_N2_ini, rfl, rfl⟩) rfl rfl ?_
  obtain ⟨h9, e9⟩ : ∃ z, pm_set h8 t (.inr (8, [.ref (t + 1), .int 0, .int 0, .int (-1), .ref (t + 2), .ref (t + 3), .null, .null, .null])) = z := ⟨_, rfl⟩
  have a9 : h9.1 = t + 4 := by rw [← e9]; exact a8
  have s9 : h9.2.1 = h.2.1 + 600 + 2 + 3 := by rw [← e9]; exact s8
  have o9 : ∀ b, b < t → h9.2.2 b = h.2.2 b := fun b hb => by rw [← e9, cl_set_ne (by omega)]; exact o8 b hb
  have t9 : h9.2.2 t = .inr (8, [.ref (t + 1), .int 0, .int 0, .int (-1), .ref (t + 2), .ref (t + 3), .null, .null, .null]) := by rw [← e9]; exact cl_set_eq
  have c1_9 : h9.2.2 (t + 1) = .inl (2, 600, .inl (fun _ => (0 : Int32))) := by rw [← e9, cl_set_ne (by omega)]; exact c1_8
  have c2_9 : h9.2.2 (t + 2) = .inl (4, 2, .inr (.inr (.inr (.inr (fun _ => none))))) := by rw [← e9, cl_set_ne (by omega)]; exact c2_8
  have c3_9 : h9.2.2 (t + 3) = .inl (5, 3, .inr (.inr (.inr (.inr (fun _ => none))))) := by rw [← e9, cl_set_ne (by omega)]; exact c3_8
  rw [e9]
  refine pm_R_lo pm_M2 (pc' := 53) rfl rfl rfl ?_
  refine pm_R_stat pm_M2 (pc' := 56) rfl rfl rfl ?_
  refine pm_R_op pm_M2 (pc' := 57) (st' := [.int 2, .ref 1, .ref t]) rfl rfl rfl ?_
  refine pm_R_iald pm_M2 (pc' := 58) (v := 2) rfl ((o9 1 (by omega)).trans e1c) (by omega) rfl rfl rfl ?_
  refine pm_R_newq pm_M2 (pc' := 61) (N := 2) rfl rfl rfl (by decide) rfl (Nat.le_of_ble_eq_true rfl) rfl ?_
  obtain ⟨h10, e10⟩ : ∃ z, pm_push h9 (.inl (6, pm_newty 6 2)) 2 = z := ⟨_, rfl⟩
  have a10 : h10.1 = t + 5 := by rw [← e10]; show h9.1 + 1 = _; omega
  have s10 : h10.2.1 = h.2.1 + 600 + 2 + 3 + 2 := by rw [← e10]; show h9.2.1 + _ = _; rw [s9]
  have o10 : ∀ b, b < t → h10.2.2 b = h.2.2 b := fun b hb => by rw [← e10, cl_push_lt (by omega)]; exact o9 b hb
  have t10 : h10.2.2 t = .inr (8, [.ref (t + 1), .int 0, .int 0, .int (-1), .ref (t + 2), .ref (t + 3), .null, .null, .null]) := by rw [← e10]; rw [cl_push_lt (by omega)]; exact t9
  have c1_10 : h10.2.2 (t + 1) = .inl (2, 600, .inl (fun _ => (0 : Int32))) := by rw [← e10, cl_push_lt (by omega)]; exact c1_9
  have c2_10 : h10.2.2 (t + 2) = .inl (4, 2, .inr (.inr (.inr (.inr (fun _ => none))))) := by rw [← e10, cl_push_lt (by omega)]; exact c2_9
  have c3_10 : h10.2.2 (t + 3) = .inl (5, 3, .inr (.inr (.inr (.inr (fun _ => none))))) := by rw [← e10, cl_push_lt (by omega)]; exact c3_9
  have c4_10 : h10.2.2 (t + 4) = .inl (6, 2, .inr (.inr (.inr (.inr (fun _ => none))))) := by rw [← e10, ← a9]; exact cl_push_eq
  rw [e10, a9]
  refine pm_R_put pm_M2 (pc' := 64) (fs' := [.ref (t + 1), .int 0, .int 0, .int (-1), .ref (t + 2), .ref (t + 3), .ref (t + 4), .null, .null]) rfl rfl rfl t10 (by omega) (by omega) (Nat.le_of_ble_eq_true rfl) rfl (Or.inr ⟨pm_N2_ini, rfl, rfl⟩) rfl rfl ?_
  obtain ⟨h11, e11⟩ : ∃ z, pm_set h10 t (.inr (8, [.ref (t + 1), .int 0, .int 0, .int (-1), .ref (t + 2), .ref (t + 3), .ref (t + 4), .null, .null])) = z := ⟨_, rfl⟩
  have a11 : h11.1 = t + 5 := by rw [← e11]; exact a10
  have s11 : h11.2.1 = h.2.1 + 600 + 2 + 3 + 2 := by rw [← e11]; exact s10
  have o11 : ∀ b, b < t → h11.2.2 b = h.2.2 b := fun b hb => by rw [← e11, cl_set_ne (by omega)]; exact o10 b hb
  have t11 : h11.2.2 t = .inr (8, [.ref (t + 1), .int 0, .int 0, .int (-1), .ref (t + 2), .ref (t + 3), .ref (t + 4), .null, .null]) := by rw [← e11]; exact cl_set_eq
  have c1_11 : h11.2.2 (t + 1) = .inl (2, 600, .inl (fun _ => (0 : Int32))) := by rw [← e11, cl_set_ne (by omega)]; exact c1_10
  have c2_11 : h11.2.2 (t + 2) = .inl (4, 2, .inr (.inr (.inr (.inr (fun _ => none))))) := by rw [← e11, cl_set_ne (by omega)]; exact c2_10
  have c3_11 : h11.2.2 (t + 3) = .inl (5, 3, .inr (.inr (.inr (.inr (fun _ => none))))) := by rw [← e11, cl_set_ne (by omega)]; exact c3_10
  have c4_11 : h11.2.2 (t + 4) = .inl (6, 2, .inr (.inr (.inr (.inr (fun _ => none))))) := by rw [← e11, cl_set_ne (by omega)]; exact c4_10
  rw [e11]
  refine pm_R_lo pm_M2 (pc' := 65) rfl rfl rfl ?_
  refine pm_R_stat pm_M2 (pc' := 68) rfl rfl rfl ?_
  refine pm_R_op pm_M2 (pc' := 69) (st' := [.int 3, .ref 1, .ref t]) rfl rfl rfl ?_
  refine pm_R_iald pm_M2 (pc' := 70) (v := 2) rfl ((o11 1 (by omega)).trans e1c) (by omega) rfl rfl rfl ?_
  refine pm_R_newq pm_M2 (pc' := 73) (N := 2) rfl rfl rfl (by decide) rfl (Nat.le_of_ble_eq_true rfl) rfl ?_
  obtain ⟨h12, e12⟩ : ∃ z, pm_push h11 (.inl (7, pm_newty 7 2)) 2 = z := ⟨_, rfl⟩
  have a12 : h12.1 = t + 6 := by rw [← e12]; show h11.1 + 1 = _; omega
  have s12 : h12.2.1 = h.2.1 + 600 + 2 + 3 + 2 + 2 := by rw [← e12]; show h11.2.1 + _ = _; rw [s11]
  have o12 : ∀ b, b < t → h12.2.2 b = h.2.2 b := fun b hb => by rw [← e12, cl_push_lt (by omega)]; exact o11 b hb
  have t12 : h12.2.2 t = .inr (8, [.ref (t + 1), .int 0, .int 0, .int (-1), .ref (t + 2), .ref (t + 3), .ref (t + 4), .null, .null]) := by rw [← e12]; rw [cl_push_lt (by omega)]; exact t11
  have c1_12 : h12.2.2 (t + 1) = .inl (2, 600, .inl (fun _ => (0 : Int32))) := by rw [← e12, cl_push_lt (by omega)]; exact c1_11
  have c2_12 : h12.2.2 (t + 2) = .inl (4, 2, .inr (.inr (.inr (.inr (fun _ => none))))) := by rw [← e12, cl_push_lt (by omega)]; exact c2_11
  have c3_12 : h12.2.2 (t + 3) = .inl (5, 3, .inr (.inr (.inr (.inr (fun _ => none))))) := by rw [← e12, cl_push_lt (by omega)]; exact c3_11
  have c4_12 : h12.2.2 (t + 4) = .inl (6, 2, .inr (.inr (.inr (.inr (fun _ => none))))) := by rw [← e12, cl_push_lt (by omega)]; exact c4_11
  have c5_12 : h12.2.2 (t + 5) = .inl (7, 2, .inr (.inr (.inr (.inr (fun _ => none))))) := by rw [← e12, ← a11]; exact cl_push_eq
  rw [e12, a11]
  refine pm_R_put pm_M2 (pc' := 76) (fs' := [.ref (t + 1), .int 0, .int 0, .int (-1), .ref (t + 2), .ref (t + 3), .ref (t + 4), .ref (t + 5), .null]) rfl rfl rfl t12 (by omega) (by omega) (Nat.le_of_ble_eq_true rfl) rfl (Or.inr ⟨pm_N2_ini, rfl, rfl⟩) rfl rfl ?_
  obtain ⟨h13, e13⟩ : ∃ z, pm_set h12 t (.inr (8, [.ref (t + 1), .int 0, .int 0, .int (-1), .ref (t + 2), .ref (t + 3), .ref (t + 4), .ref (t + 5), .null])) = z := ⟨_, rfl⟩
  have a13 : h13.1 = t + 6 := by rw [← e13]; exact a12
  have s13 : h13.2.1 = h.2.1 + 600 + 2 + 3 + 2 + 2 := by rw [← e13]; exact s12
  have o13 : ∀ b, b < t → h13.2.2 b = h.2.2 b := fun b hb => by rw [← e13, cl_set_ne (by omega)]; exact o12 b hb
  have t13 : h13.2.2 t = .inr (8, [.ref (t + 1), .int 0, .int 0, .int (-1), .ref (t + 2), .ref (t + 3), .ref (t + 4), .ref (t + 5), .null]) := by rw [← e13]; exact cl_set_eq
  have c1_13 : h13.2.2 (t + 1) = .inl (2, 600, .inl (fun _ => (0 : Int32))) := by rw [← e13, cl_set_ne (by omega)]; exact c1_12
  have c2_13 : h13.2.2 (t + 2) = .inl (4, 2, .inr (.inr (.inr (.inr (fun _ => none))))) := by rw [← e13, cl_set_ne (by omega)]; exact c2_12
  have c3_13 : h13.2.2 (t + 3) = .inl (5, 3, .inr (.inr (.inr (.inr (fun _ => none))))) := by rw [← e13, cl_set_ne (by omega)]; exact c3_12
  have c4_13 : h13.2.2 (t + 4) = .inl (6, 2, .inr (.inr (.inr (.inr (fun _ => none))))) := by rw [← e13, cl_set_ne (by omega)]; exact c4_12
  have c5_13 : h13.2.2 (t + 5) = .inl (7, 2, .inr (.inr (.inr (.inr (fun _ => none))))) := by rw [← e13, cl_set_ne (by omega)]; exact c5_12
  rw [e13]
  refine pm_R_lo pm_M2 (pc' := 77) rfl rfl rfl ?_
  refine pm_R_op pm_M2 (pc' := 78) (st' := [.int 4, .ref t]) rfl rfl rfl ?_
  refine pm_R_newa pm_M2 (pc' := 80) (N := 4) rfl rfl (by decide) rfl (Nat.le_of_ble_eq_true rfl) rfl ?_
  obtain ⟨h14, e14⟩ : ∃ z, pm_push h13 (.inl (0, pm_newty 0 4)) 4 = z := ⟨_, rfl⟩
  have a14 : h14.1 = t + 7 := by rw [← e14]; show h13.1 + 1 = _; omega
  have s14 : h14.2.1 = h.2.1 + 600 + 2 + 3 + 2 + 2 + 4 := by rw [← e14]; show h13.2.1 + _ = _; rw [s13]
  have o14 : ∀ b, b < t → h14.2.2 b = h.2.2 b := fun b hb => by rw [← e14, cl_push_lt (by omega)]; exact o13 b hb
  have t14 : h14.2.2 t = .inr (8, [.ref (t + 1), .int 0, .int 0, .int (-1), .ref (t + 2), .ref (t + 3), .ref (t + 4), .ref (t + 5), .null]) := by rw [← e14]; rw [cl_push_lt (by omega)]; exact t13
  have c1_14 : h14.2.2 (t + 1) = .inl (2, 600, .inl (fun _ => (0 : Int32))) := by rw [← e14, cl_push_lt (by omega)]; exact c1_13
  have c2_14 : h14.2.2 (t + 2) = .inl (4, 2, .inr (.inr (.inr (.inr (fun _ => none))))) := by rw [← e14, cl_push_lt (by omega)]; exact c2_13
  have c3_14 : h14.2.2 (t + 3) = .inl (5, 3, .inr (.inr (.inr (.inr (fun _ => none))))) := by rw [← e14, cl_push_lt (by omega)]; exact c3_13
  have c4_14 : h14.2.2 (t + 4) = .inl (6, 2, .inr (.inr (.inr (.inr (fun _ => none))))) := by rw [← e14, cl_push_lt (by omega)]; exact c4_13
  have c5_14 : h14.2.2 (t + 5) = .inl (7, 2, .inr (.inr (.inr (.inr (fun _ => none))))) := by rw [← e14, cl_push_lt (by omega)]; exact c5_13
  have c6_14 : h14.2.2 (t + 6) = .inl (0, 4, .inl (fun _ => (0 : Int32))) := by rw [← e14, ← a13]; exact cl_push_eq
  rw [e14, a13]
  refine pm_R_put pm_M2 (pc' := 83) (fs' := [.ref (t + 1), .int 0, .int 0, .int (-1), .ref (t + 2), .ref (t + 3), .ref (t + 4), .ref (t + 5), .ref (t + 6)]) rfl rfl rfl t14 (by omega) (by omega) (Nat.le_of_ble_eq_true rfl) rfl (Or.inr ⟨pm_N2_ini, rfl, rfl⟩) rfl rfl ?_
  obtain ⟨h15, e15⟩ : ∃ z, pm_set h14 t (.inr (8, [.ref (t + 1), .int 0, .int 0, .int (-1), .ref (t + 2), .ref (t + 3), .ref (t + 4), .ref (t + 5), .ref (t + 6)])) = z := ⟨_, rfl⟩
  have a15 : h15.1 = t + 7 := by rw [← e15]; exact a14
  have s15 : h15.2.1 = h.2.1 + 600 + 2 + 3 + 2 + 2 + 4 := by rw [← e15]; exact s14
  have o15 : ∀ b, b < t → h15.2.2 b = h.2.2 b := fun b hb => by rw [← e15, cl_set_ne (by omega)]; exact o14 b hb
  have t15 : h15.2.2 t = .inr (8, [.ref (t + 1), .int 0, .int 0, .int (-1), .ref (t + 2), .ref (t + 3), .ref (t + 4), .ref (t + 5), .ref (t + 6)]) := by rw [← e15]; exact cl_set_eq
  have c1_15 : h15.2.2 (t + 1) = .inl (2, 600, .inl (fun _ => (0 : Int32))) := by rw [← e15, cl_set_ne (by omega)]; exact c1_14
  have c2_15 : h15.2.2 (t + 2) = .inl (4, 2, .inr (.inr (.inr (.inr (fun _ => none))))) := by rw [← e15, cl_set_ne (by omega)]; exact c2_14
  have c3_15 : h15.2.2 (t + 3) = .inl (5, 3, .inr (.inr (.inr (.inr (fun _ => none))))) := by rw [← e15, cl_set_ne (by omega)]; exact c3_14
  have c4_15 : h15.2.2 (t + 4) = .inl (6, 2, .inr (.inr (.inr (.inr (fun _ => none))))) := by rw [← e15, cl_set_ne (by omega)]; exact c4_14
  have c5_15 : h15.2.2 (t + 5) = .inl (7, 2, .inr (.inr (.inr (.inr (fun _ => none))))) := by rw [← e15, cl_set_ne (by omega)]; exact c5_14
  have c6_15 : h15.2.2 (t + 6) = .inl (0, 4, .inl (fun _ => (0 : Int32))) := by rw [← e15, cl_set_ne (by omega)]; exact c6_14
  rw [e15]
  exact pm_R_ret pm_M2 (r := none) rfl rfl (K _ a15 s15 o15 t15 c1_15 c2_15 c3_15 c4_15 c5_15 c6_15)
theorem cl_O.upo {k j : Nat} {f : Nat → Option Nat} {x : Option Nat} (h : cl_O ck k f) (hx : ∀ b, x = some b → ck b = k) : cl_O ck k (va_up f j x) := fun i y hy => by
  by_cases e : i = j
  · rw [e, show va_up f j x j = x by simp [va_up]] at hy; exact hx y hy
  · rw [show va_up f j x i = f i by simp [va_up, e]] at hy; exact h i y hy
/-- what is counted is there, as functions -/
def cl_NF (f1 f2 f3 f4 : Nat → Option Nat) (c : Nat → Int32) : Prop := (∀ i : Nat, (i : Int) < (c 0).toInt → ∃ b, f1 i = some b) ∧ (∀ i : Nat, (i : Int) < (c 1).toInt → ∃ b, f2 i = some b) ∧ (∀ i : Nat, (i : Int) < (c 2).toInt → ∃ b, f3 i = some b) ∧ (∀ i : Nat, (i : Int) < (c 3).toInt → ∃ b, f4 i = some b)
theorem cl_N.fn {l r me ho co : pm_E} {f1 f2 f3 f4 : Nat → Option Nat} {c : Nat → Int32} (N : cl_N l r me ho co) (e1 : l = .inl (4, 2, .inr (.inr (.inr (.inr f1))))) (e2 : r = .inl (5, 3, .inr (.inr (.inr (.inr f2))))) (e3 : me = .inl (6, 2, .inr (.inr (.inr (.inr f3))))) (e4 : ho = .inl (7, 2, .inr (.inr (.inr (.inr f4))))) (e5 : co = .inl (0, 4, .inl c)) : cl_NF f1 f2 f3 f4 c := by
  obtain ⟨n1, n2, n3, n4⟩ := N c e5
  exact ⟨n1 _ e1, n2 _ e2, n3 _ e3, n4 _ e4⟩
theorem cl_NF.back {l r me ho co : pm_E} {f1 f2 f3 f4 : Nat → Option Nat} {c : Nat → Int32} (N : cl_NF f1 f2 f3 f4 c) (e1 : l = .inl (4, 2, .inr (.inr (.inr (.inr f1))))) (e2 : r = .inl (5, 3, .inr (.inr (.inr (.inr f2))))) (e3 : me = .inl (6, 2, .inr (.inr (.inr (.inr f3))))) (e4 : ho = .inl (7, 2, .inr (.inr (.inr (.inr f4))))) (e5 : co = .inl (0, 4, .inl c)) : cl_N l r me ho co := by
  intro c' hc
  rw [e5] at hc; cases hc
  refine ⟨fun f hf => ?_, fun f hf => ?_, fun f hf => ?_, fun f hf => ?_⟩
  · rw [e1] at hf; cases hf; exact N.1
  · rw [e2] at hf; cases hf; exact N.2.1
  · rw [e3] at hf; cases hf; exact N.2.2.1
  · rw [e4] at hf; cases hf; exact N.2.2.2
theorem cl_NF.cp {f1 f2 f3 f4 g1 g2 g3 g4 : Nat → Option Nat} {c c2 : Nat → Int32} (N : cl_NF g1 g2 g3 g4 c2) (hc : ∀ j, sf_B 0 (if j = 1 then 3 else 2) (c2 j)) : cl_NF (va_up (va_up f1 0 (g1 0)) 1 (g1 1)) (va_up (va_up (va_up f2 0 (g2 0)) 1 (g2 1)) 2 (g2 2)) (va_up (va_up f3 0 (g3 0)) 1 (g3 1)) (va_up (va_up f4 0 (g4 0)) 1 (g4 1)) (va_cpy c2 c 0 0 4) := by
  have b0 := (hc 0).2
  have b1 := (hc 1).2
  have b2 := (hc 2).2
  have b3 := (hc 3).2
  have k : ∀ j, j < 4 → va_cpy c2 c 0 0 4 j = c2 j := fun j hj => cl_cpI (by omega) hj
  have u2 : ∀ (f g : Nat → Option Nat) (i : Nat), i < 2 → va_up (va_up f 0 (g 0)) 1 (g 1) i = g i := fun f g i hi => by
    rcases (show i = 0 ∨ i = 1 by omega) with z | z <;> (subst z; simp [va_up])
  have u3 : ∀ (f g : Nat → Option Nat) (i : Nat), i < 3 → va_up (va_up (va_up f 0 (g 0)) 1 (g 1)) 2 (g 2) i = g i := fun f g i hi => by
    rcases (show i = 0 ∨ i = 1 ∨ i = 2 by omega) with z | z | z <;> (subst z; simp [va_up])
  simp at b0 b1 b2 b3
  refine ⟨fun i hi => ?_, fun i hi => ?_, fun i hi => ?_, fun i hi => ?_⟩
  · rw [k 0 (by decide)] at hi; rw [u2 _ _ _ (by omega)]; exact N.1 i hi
  · rw [k 1 (by decide)] at hi; rw [u3 _ _ _ (by omega)]; exact N.2.1 i hi
  · rw [k 2 (by decide)] at hi; rw [u2 _ _ _ (by omega)]; exact N.2.2.1 i hi
  · rw [k 3 (by decide)] at hi; rw [u2 _ _ _ (by omega)]; exact N.2.2.2 i hi
theorem cl_cpB {c c2 : Nat → Int32} (h : ∀ j, sf_B 0 (if j = 1 then 3 else 2) (c j)) (h2 : ∀ j, sf_B 0 (if j = 1 then 3 else 2) (c2 j)) : ∀ j, sf_B 0 (if j = 1 then 3 else 2) (va_cpy c2 c 0 0 4 j) := fun j => by
  rcases Nat.lt_or_ge j 4 with z | z
  · rw [cl_cpI (i := j) (by omega) z]; exact h2 j
  · rw [cl_cpO (by omega)]; exact h j
/-- a cell of a text is none of an image's -/
theorem cl_off {t x k : Nat} (G : cl_G ck E) (hk : ck t = 15) (hx : ck x = k) (h15 : k < 15 ∨ 21 < k) : x < t ∨ t + 6 < x := by
  obtain ⟨q1, q2, q3, q4, q5, q6⟩ := G.2.2.2.2.2.1 t hk
  rcases Nat.lt_or_ge x t with z | z
  · exact Or.inl z
  · rcases Nat.lt_or_ge (t + 6) x with y | y
    · exact Or.inr y
    · exfalso
      rcases (show x = t ∨ x = t + 1 ∨ x = t + 2 ∨ x = t + 3 ∨ x = t + 4 ∨ x = t + 5 ∨ x = t + 6 by omega) with w | w | w | w | w | w | w <;> (subst w; omega)
theorem cl_off15 {t x : Nat} (G : cl_G ck E) (hk : ck t = 15) (hx : ck x = 15) (hne : x ≠ t) (i : Nat) (hi : i ≤ 6) : x + i < t ∨ t + 6 < x + i := by
  obtain ⟨q1, q2, q3, q4, q5, q6⟩ := G.2.2.2.2.2.1 t hk
  obtain ⟨r1, r2, r3, r4, r5, r6⟩ := G.2.2.2.2.2.1 x hx
  have kt : ∀ j, j ≤ 6 → ck (t + j) = 15 + j := fun j hj => by
    rcases (show j = 0 ∨ j = 1 ∨ j = 2 ∨ j = 3 ∨ j = 4 ∨ j = 5 ∨ j = 6 by omega) with w | w | w | w | w | w | w <;> (subst w; assumption)
  have kx : ∀ j, j ≤ 6 → ck (x + j) = 15 + j := fun j hj => by
    rcases (show j = 0 ∨ j = 1 ∨ j = 2 ∨ j = 3 ∨ j = 4 ∨ j = 5 ∨ j = 6 by omega) with w | w | w | w | w | w | w <;> (subst w; assumption)
  rcases Nat.lt_or_ge (x + i) t with z | z
  · exact Or.inl z
  · rcases Nat.lt_or_ge (t + 6) (x + i) with y | y
    · exact Or.inr y
    · exfalso
      have a := kt (x + i - t) (by omega)
      rw [show t + (x + i - t) = x + i by omega] at a
      have b := kx i hi
      omega
/-- an image changes, and nothing else -/
theorem cl_T.img {t : Nat} {h' : pm_H} (G : cl_G ck E) (T : cl_T ck E m o h) (hk : ck t = 15) (h1 : h'.1 = h.1) (hF : ∀ x, (x < t ∨ t + 6 < x) → h'.2.2 x = h.2.2 x) (I : cl_I ck h' t) : cl_T ck E m o h' := by
  have ht := G.1 t (by rw [hk]; decide)
  have lo : ∀ x, x < 72 → h'.2.2 x = h.2.2 x := fun x hx => hF x (by omega)
  obtain ⟨t1, t2, t3, t4, t5, t6, t7, t8, t9, t10, t11, t12, t13, t14, t15⟩ := T
  refine ⟨by omega, by rw [lo 16 (by decide)]; exact t2, by rw [lo 17 (by decide)]; exact t3, by rw [lo 25 (by decide)]; exact t4, by rw [lo 30 (by decide)]; exact t5, by rw [lo 31 (by decide)]; exact t6, by rw [lo 33 (by decide)]; exact t7, t8, fun a a1 a2 => by rw [lo a (by omega)]; exact t9 a a1 a2, ?_, fun a ha => by rw [h1]; exact t11 a ha, fun a a1 a2 => ?_, ?_, t14, fun a ha => by rw [lo a (by omega)]; exact t15 a ha⟩
  · rw [lo 19 (by decide), lo 20 (by decide), lo 21 (by decide), lo 22 (by decide), lo 23 (by decide)]; exact t10
  · rw [hF a (cl_off G hk rfl (Or.inl (by omega)))]; exact t12 a a1 a2
  · obtain ⟨d15, d22, d23, d24, d25, d26, d27, d28⟩ := t13
    have k22 : ∀ a k, 21 < k → ck a = k → h'.2.2 a = h.2.2 a := fun a k h21 e => hF a (cl_off G hk e (Or.inr h21))
    refine ⟨fun a ha => ?_, fun a ha => ?_, fun a ha => ?_, fun a ha => ?_, fun a ha => ?_, fun a ha => ?_, fun a ha => ?_, fun a ha => ?_⟩
    · by_cases e : a = t
      · subst e; exact I
      · have hx := d15 a ha
        have o0 := hF (a + 0) (cl_off15 G hk ha e 0 (by decide))
        have o1 := hF (a + 1) (cl_off15 G hk ha e 1 (by decide))
        have o2 := hF (a + 2) (cl_off15 G hk ha e 2 (by decide))
        have o3 := hF (a + 3) (cl_off15 G hk ha e 3 (by decide))
        have o4 := hF (a + 4) (cl_off15 G hk ha e 4 (by decide))
        have o5 := hF (a + 5) (cl_off15 G hk ha e 5 (by decide))
        have o6 := hF (a + 6) (cl_off15 G hk ha e 6 (by decide))
        rw [Nat.add_zero] at o0
        rw [← o0, ← o1, ← o2, ← o3, ← o4, ← o5, ← o6] at hx
        exact hx
    · rw [k22 a _ (by decide) ha]; exact d22 a ha
    · rw [k22 a _ (by decide) ha]; exact d23 a ha
    · rw [k22 a _ (by decide) ha]; exact d24 a ha
    · rw [k22 a _ (by decide) ha]; exact d25 a ha
    · rw [k22 a _ (by decide) ha]; exact d26 a ha
    · rw [k22 a _ (by decide) ha]; exact d27 a ha
    · rw [k22 a _ (by decide) ha]; exact d28 a ha
theorem cl_txt1 {x : Nat} (G : cl_G ck E) (T : cl_T ck E m o h) (z : ck x = 1) : (∃ fs, h.2.2 x = .inr (4, fs)) ∧ 16 ≤ x ∧ x < h.1 := by
  obtain ⟨_, _, _, _, _, _, _, _, _, _, _, ob, _⟩ := (G.2.1 x z).2.2.2.2.2
  exact ⟨⟨_, T.im z (by decide) (by decide) ob⟩, G.ge z (by decide), T.al z (by decide)⟩
theorem cl_txt2 {x : Nat} (G : cl_G ck E) (T : cl_T ck E m o h) (z : ck x = 7) : (∃ fs, h.2.2 x = .inr (5, fs)) ∧ 16 ≤ x ∧ x < h.1 := by
  obtain ⟨_, _, _, _, ob, _⟩ := (G.2.2.1 x z).2
  exact ⟨⟨_, T.im z (by decide) (by decide) ob⟩, G.ge z (by decide), T.al z (by decide)⟩
theorem cl_txt3 {x : Nat} (G : cl_G ck E) (T : cl_T ck E m o h) (z : ck x = 9) : (∃ fs, h.2.2 x = .inr (1, fs)) ∧ 16 ≤ x ∧ x < h.1 := by
  obtain ⟨_, _, _, _, _, _, _, _, ob, _⟩ := (G.2.2.2.1 x z).2.2.2
  exact ⟨⟨_, T.im z (by decide) (by decide) ob⟩, G.ge z (by decide), T.al z (by decide)⟩
theorem cl_txt4 {x : Nat} (G : cl_G ck E) (T : cl_T ck E m o h) (z : ck x = 13) : (∃ fs, h.2.2 x = .inr (0, fs)) ∧ 16 ≤ x ∧ x < h.1 := by
  obtain ⟨_, _, _, ob, _⟩ := (G.2.2.2.2.1 x z).2
  exact ⟨⟨_, T.im z (by decide) (by decide) ob⟩, G.ge z (by decide), T.al z (by decide)⟩
theorem cl_T.put24 (G : cl_G ck E) (T : cl_T ck E m o h) {f : Nat → Option Nat} (hx : cl_O ck 15 f) : cl_T ck E m o (pm_set h 24 (.inl (8, 3, .inr (.inr (.inr (.inr f)))))) := by
  refine ⟨T.1, by rw [cl_set_ne (by omega)]; exact T.e16, by rw [cl_set_ne (by omega)]; exact T.e17, by rw [cl_set_ne (by omega)]; exact T.e25, by rw [cl_set_ne (by omega)]; exact T.e30, by rw [cl_set_ne (by omega)]; exact T.e31, by rw [cl_set_ne (by omega)]; exact T.e33, T.B, fun b b1 b2 => ?_, ?_, T.2.2.2.2.2.2.2.2.2.2.1, fun b b1 b2 => ?_, cl_D.low G T.D (fun b hb => cl_set_ne (by omega)), T.oo, fun b hb => by rw [cl_set_ne (by omega)]; exact T.old hb⟩
  · by_cases hb : b = 24
    · subst hb; rw [cl_set_eq]; exact ⟨f, rfl, hx⟩
    · rw [cl_set_ne hb]; exact T.C b b1 b2
  · rw [cl_set_ne (by omega), cl_set_ne (by omega), cl_set_ne (by omega), cl_set_ne (by omega), cl_set_ne (by omega)]; exact T.N
  · have := G.1 b (by omega)
    rw [cl_set_ne (by omega)]
    exact T.2.2.2.2.2.2.2.2.2.2.2.1 b b1 b2
theorem cl_c57_t {a0 : Int32} {t : Nat} {f : Nat → Option Nat} (G : cl_G ck E) (T : cl_T ck E m o h) (e24 : h.2.2 24 = .inl (8, 3, .inr (.inr (.inr (.inr f))))) (hj : pm_in a0 3 = true) (hf : f a0.toNatClampNeg = some t) (hk : ck t = 15) (K : ∀ h', cl_T ck E m o h' → h'.1 = h.1 → h'.2.1 = h.2.1 → (∀ x, (x < t ∨ t + 6 < x) → h'.2.2 x = h.2.2 x) → h'.2.2 t = .inr (8, [.ref (t + 1), .int (m 0), .int (m 1), .int (m 2), .ref (t + 2), .ref (t + 3), .ref (t + 4), .ref (t + 5), .ref (t + 6)]) → Q (some (.int 1)) h') : pm_R (d + 2) 57 33 [.ref 16, .int a0] [] h Q := by
  have h72 := G.1 t (by rw [hk]; decide)
  obtain ⟨q1, q2, q3, q4, q5, q6⟩ := G.2.2.2.2.2.1 t hk
  have l6 := T.al q6 (by decide)
  have hT := T.1
  refine pm_R_lo pm_M57 (pc' := 34) rfl rfl rfl ?_
  refine pm_R_get pm_M57 (pc' := 37) (v := .ref 24) rfl rfl T.e16 (by decide) (T.lt (by decide)) rfl rfl ?_
  refine pm_R_lo pm_M57 (pc' := 38) rfl rfl rfl ?_
  refine pm_R_aald pm_M57 (pc' := 39) (v := .ref t) rfl e24 (by decide) (by decide) (by decide) (T.lt (by decide)) hj (by rw [hf]; rfl) rfl ?_
  refine pm_R_lo pm_M57 (pc' := 40) rfl rfl rfl ?_
  refine pm_R_get pm_M57 (pc' := 43) (v := .ref 17) rfl rfl T.e16 (by decide) (T.lt (by decide)) rfl rfl ?_
  obtain ⟨s, f', u, b1, b2, b3, et, ⟨tp, c1⟩, ⟨f1, c2, o1⟩, ⟨f2, c3, o2⟩, ⟨f3, c4, o3⟩, ⟨f4, c5, o4⟩, ⟨c, c6, o6⟩, nn⟩ := T.D.1 t hk
  obtain ⟨tp2, x1⟩ := T.C 18 (by decide) (by decide)
  obtain ⟨g1, x2, y1⟩ := T.C 19 (by decide) (by decide)
  obtain ⟨g2, x3, y2⟩ := T.C 20 (by decide) (by decide)
  obtain ⟨g3, x4, y3⟩ := T.C 21 (by decide) (by decide)
  obtain ⟨g4, x5, y4⟩ := T.C 22 (by decide) (by decide)
  obtain ⟨cc, x6, y6⟩ := T.C 23 (by decide) (by decide)
  refine pm_R_cv pm_M57 (pc' := 46) (a := t) (ra := [.ref 17]) (rest := []) (ls' := [.ref t, .ref 17]) rfl rfl (Or.inl rfl) pm_M58 et rfl (G.ge hk (by decide)) (T.al hk (by decide)) rfl rfl (Nat.le_of_ble_eq_true rfl) rfl rfl ?_
  refine cl_c58 (d := d) (a := t) (b := 17) (by omega) l6 (by decide) (by omega) (by omega) ⟨rfl, rfl, fun _ _ => rfl, et, c1, c2, c3, c4, c5, c6⟩ T.e17 x1 x2 x3 x4 x5 x6 (fun i x hx => ?_) (fun i x hx => ?_) (fun i x hx => ?_) (fun i x hx => ?_) (fun h' P => ?_)
  · have z := y1 i x hx; obtain ⟨w1, w2, w3⟩ := cl_txt1 G T z; exact ⟨w1, w2, w3, cl_off G hk z (Or.inl (by decide))⟩
  · have z := y2 i x hx; obtain ⟨w1, w2, w3⟩ := cl_txt2 G T z; exact ⟨w1, w2, w3, cl_off G hk z (Or.inl (by decide))⟩
  · have z := y3 i x hx; obtain ⟨w1, w2, w3⟩ := cl_txt3 G T z; exact ⟨w1, w2, w3, cl_off G hk z (Or.inl (by decide))⟩
  · have z := y4 i x hx; obtain ⟨w1, w2, w3⟩ := cl_txt4 G T z; exact ⟨w1, w2, w3, cl_off G hk z (Or.inl (by decide))⟩
  · obtain ⟨p1, p2, p3, p4, k1, k2, k3, k4, k5, k6⟩ := P
    have I : cl_I ck h' t := ⟨m 0, m 1, m 2, T.B 0, T.B 1, T.B 2, p4, ⟨_, k1⟩, ⟨_, k2, (o1.upo (y1 0)).upo (y1 1)⟩, ⟨_, k3, ((o2.upo (y2 0)).upo (y2 1)).upo (y2 2)⟩, ⟨_, k4, (o3.upo (y3 0)).upo (y3 1)⟩, ⟨_, k5, (o4.upo (y4 0)).upo (y4 1)⟩, ⟨_, k6, cl_cpB o6 y6⟩, ((T.N.fn x2 x3 x4 x5 x6).cp y6).back k2 k3 k4 k5 k6⟩
    show pm_R _ 57 46 [.ref 16, .int a0] [] _ _
    refine pm_R_op pm_M57 (pc' := 47) (st' := [.int 1]) rfl rfl rfl ?_
    exact pm_R_ret pm_M57 (r := some (.int 1)) rfl rfl (K h' (T.img G hk p1 p3 I) p1 p2 p3 p4)
/-- image -/
theorem cl_c57 {a0 : Int32} {f : Nat → Option Nat} (G : cl_G ck E) (T : cl_T ck E m o h) (e24 : h.2.2 24 = .inl (8, 3, .inr (.inr (.inr (.inr f))))) (K0 : (a0.toInt < 0 ∨ 3 ≤ a0.toInt) → Q (some (.int 0)) h) (K1 : ∀ (t : Nat) (ck' : cl_K) (h' : pm_H), 0 ≤ a0.toInt → a0.toInt < 3 → (∀ b, b < h.1 → ck' b = ck b) → cl_G ck' E → cl_T ck' E m o h' → cl_F ck [24] 7 622 h h' → h'.2.2 24 = .inl (8, 3, .inr (.inr (.inr (.inr (va_up f a0.toNatClampNeg (some t)))))) → (f a0.toNatClampNeg = some t ∨ h.1 ≤ t) → ck' t = 15 → h'.2.2 t = .inr (8, [.ref (t + 1), .int (m 0), .int (m 1), .int (m 2), .ref (t + 2), .ref (t + 3), .ref (t + 4), .ref (t + 5), .ref (t + 6)]) → (∀ b, b < h.1 → ck b = 15 → b ≠ t → h'.2.2 b = h.2.2 b) → (∀ a, a < 72 → a ≠ 24 → h'.2.2 a = h.2.2 a) → Q (some (.int 1)) h') : pm_R (d + 2) 57 0 [.ref 16, .int a0] [] h Q := by
  have h72 := T.1
  refine pm_R_lo pm_M57 (pc' := 1) rfl rfl rfl ?_
  refine pm_R_ifc pm_M57 (t := 9) (pc' := 4) rfl rfl rfl (fun c => ?_) (fun c => ?_)
  · refine pm_R_op pm_M57 (pc' := 10) (st' := [.int 0]) rfl rfl rfl ?_
    exact pm_R_ret pm_M57 (r := some (.int 0)) rfl rfl (K0 (Or.inl (Int32.lt_iff_toInt_lt.mp c)))
  have c0 : 0 ≤ a0.toInt := Int32.le_iff_toInt_le.mp (Int32.not_lt.mp c)
  refine pm_R_lo pm_M57 (pc' := 5) rfl rfl rfl ?_
  refine pm_R_op pm_M57 (pc' := 6) (st' := [.int 3, .int a0]) rfl rfl rfl ?_
  refine pm_R_icmp pm_M57 (t := 11) (pc' := 9) rfl rfl rfl (fun c3 => ?_) (fun c3 => ?_)
  · have c3' : a0.toInt < 3 := Int32.lt_iff_toInt_lt.mp c3
    have hj : pm_in a0 3 = true := sf_in (a := 0) (b := 2) ⟨c0, by omega⟩ (by decide) (by decide)
    obtain ⟨f0, ef0, hO⟩ := T.C 24 (by decide) (by decide)
    rw [e24] at ef0; cases ef0
    refine pm_R_lo pm_M57 (pc' := 12) rfl rfl rfl ?_
    refine pm_R_get pm_M57 (pc' := 15) (v := .ref 24) rfl rfl T.e16 (by decide) (T.lt (by decide)) rfl rfl ?_
    refine pm_R_lo pm_M57 (pc' := 16) rfl rfl rfl ?_
    rcases hs : f a0.toNatClampNeg with _ | t
    · refine pm_R_aald pm_M57 (pc' := 17) (v := .null) rfl e24 (by decide) (by decide) (by decide) (T.lt (by decide)) hj (by rw [hs]; rfl) rfl ?_
      refine pm_R_br pm_M57 (pc' := 20) rfl rfl ?_
      refine pm_R_lo pm_M57 (pc' := 21) rfl rfl rfl ?_
      refine pm_R_get pm_M57 (pc' := 24) (v := .ref 24) rfl rfl T.e16 (by decide) (T.lt (by decide)) rfl rfl ?_
      refine pm_R_lo pm_M57 (pc' := 25) rfl rfl rfl ?_
      refine pm_R_new pm_M57 (pc' := 28) (fs := [.null, .int 0, .int 0, .int 0, .null, .null, .null, .null, .null]) rfl rfl rfl rfl rfl ?_
      refine pm_R_op pm_M57 (pc' := 29) (st' := [.ref h.1, .ref h.1, .int a0, .ref 24]) rfl rfl rfl ?_
      obtain ⟨h1, e1⟩ : ∃ z, pm_push h (.inr (8, [.null, .int 0, .int 0, .int 0, .null, .null, .null, .null, .null])) 9 = z := ⟨_, rfl⟩
      have a1 : h1.1 = h.1 + 1 := by rw [← e1]; rfl
      have s1 : h1.2.1 = h.2.1 + 9 := by rw [← e1]; rfl
      have o1 : ∀ b, b < h.1 → h1.2.2 b = h.2.2 b := fun b hb => by rw [← e1]; exact cl_push_lt hb
      have t1 : h1.2.2 h.1 = .inr (8, [.null, .int 0, .int 0, .int 0, .null, .null, .null, .null, .null]) := by rw [← e1]; exact cl_push_eq
      show pm_R _ 57 29 _ _ (pm_push h (.inr (8, [.null, .int 0, .int 0, .int 0, .null, .null, .null, .null, .null])) 9) _
      rw [e1]
      refine pm_R_ci pm_M57 (pc' := 32) (a := h.1) (ra := []) (rest := [.ref h.1, .int a0, .ref 24]) (ls' := [.ref h.1]) rfl rfl (Or.inr rfl) pm_M2 rfl rfl (Nat.le_of_ble_eq_true rfl) rfl rfl ?_
      refine cl_x2 (d := d + 1) (t := h.1) ((o1 1 (by omega)).trans ((T.old (by decide)).trans G.2.2.2.2.2.2.2.2.1)) t1 h72 a1 (fun h2 a2 s2 o2 t2 k1 k2 k3 k4 k5 k6 => ?_)
      have hh : ∀ b, b < h.1 → h2.2.2 b = h.2.2 b := fun b hb => (o2 b hb).trans (o1 b hb)
      have lt0 := T.2.2.2.2.2.2.2.2.2.2.1
      have G2 : cl_G (cl_gr ck h.1 7 15) E := cl_gr_G G lt0 h72 (by unfold cl_gp; omega) (fun _ _ => rfl) (fun z => absurd z (by decide)) (fun z => absurd z (by decide)) (fun z => absurd z (by decide)) (fun z => absurd z (by decide))
      have nO : ∀ k, cl_O (cl_gr ck h.1 7 15) k (fun _ => none) := fun k i b hb => by cases hb
      have I0 : cl_I (cl_gr ck h.1 7 15) h2 h.1 := ⟨0, 0, -1, ⟨by decide, by decide⟩, ⟨by decide, by decide⟩, ⟨by decide, by decide⟩, t2, ⟨_, k1⟩, ⟨_, k2, nO _⟩, ⟨_, k3, nO _⟩, ⟨_, k4, nO _⟩, ⟨_, k5, nO _⟩, ⟨_, k6, fun j => ⟨by decide, by split <;> decide⟩⟩, cl_NF.back ⟨fun i hi => absurd hi (by show ¬ (i : Int) < 0; omega), fun i hi => absurd hi (by show ¬ (i : Int) < 0; omega), fun i hi => absurd hi (by show ¬ (i : Int) < 0; omega), fun i hi => absurd hi (by show ¬ (i : Int) < 0; omega)⟩ k2 k3 k4 k5 k6⟩
      have T2 : cl_T (cl_gr ck h.1 7 15) E m o h2 := T.grow G (by unfold cl_gp; omega) (fun _ _ => rfl) hh (by omega) (fun z => absurd z (by decide)) (fun _ => I0) (fun z => absurd z (by decide)) (fun z => absurd z (by decide))
      have kc : cl_gr ck h.1 7 15 h.1 = 15 := cl_gr_new0 (by decide)
      have old := cl_gr_old (n := 7) (k0 := 15) lt0
      have e2 := (hh 24 (by omega)).trans e24
      have hO2 : cl_O (cl_gr ck h.1 7 15) 15 f := fun i b hb => by
        have := hO i b hb
        rw [old b (by rw [this]; decide)]; exact this
      have T3 := T2.put24 G2 (f := va_up f a0.toNatClampNeg (some h.1)) (hO2.up kc)
      show pm_R _ 57 32 [.ref 16, .int a0] [.ref h.1, .int a0, .ref 24] _ _
      refine pm_R_aast pm_M57 (pc' := 33) rfl e2 t2 rfl (by decide) (by omega) (by omega) (by omega) hj rfl ?_
      refine cl_c57_t (d := d) (t := h.1) G2 T3 cl_set_eq hj cl_upS kc (fun h' T' p1 p2 p3 p4 => ?_)
      have hb' : ∀ b, b < h.1 → b ≠ 24 → h'.2.2 b = h.2.2 b := fun b hb hn => by rw [p3 b (Or.inl hb), cl_set_ne hn]; exact hh b hb
      refine K1 h.1 _ h' c0 c3' (fun b hb => cl_gr_lt hb) G2 T' ⟨h72, by rw [p1]; show h.1 ≤ h2.1; omega, by rw [p1]; show h2.1 ≤ _; omega, by rw [p2]; show h2.2.1 ≤ _; omega, fun a b1 b2 b3 => ?_⟩ ?_ (Or.inr (Nat.le_refl _)) kc p4 (fun b hb hk hn => ?_) (fun a ha hn => hb' a (by omega) hn)
      · exact hb' a b1 (fun z => b2 (by rw [z]; exact List.mem_singleton.mpr rfl))
      · rw [p3 24 (Or.inl (by omega))]; exact cl_set_eq
      · have := G.1 b (by rw [hk]; decide)
        exact hb' b hb (by omega)
    · have hk := hO _ _ hs
      have ht72 := G.1 t (by rw [hk]; decide)
      refine pm_R_aald pm_M57 (pc' := 17) (v := .ref t) rfl e24 (by decide) (by decide) (by decide) (T.lt (by decide)) hj (by rw [hs]; rfl) rfl ?_
      refine pm_R_br pm_M57 (pc' := 33) rfl rfl ?_
      refine cl_c57_t (d := d) (t := t) G T e24 hj hs hk (fun h' T' p1 p2 p3 p4 => ?_)
      refine K1 t ck h' c0 c3' (fun _ _ => rfl) G T' ⟨h72, by omega, by omega, by omega, fun a b1 b2 b3 => p3 a (cl_off G hk rfl (Or.inl b3))⟩ ?_ (Or.inl rfl) hk p4 (fun b hb hkb hn => p3 b (by have := cl_off15 G hk hkb hn 0 (by decide); omega)) (fun a ha hn => p3 a (by omega))
      rw [p3 24 (by omega), e24]
      have : va_up f a0.toNatClampNeg (some t) = f := by
        funext i
        by_cases e : i = a0.toNatClampNeg
        · rw [e, cl_upS, hs]
        · exact cl_upO e
      rw [this]
  · refine pm_R_op pm_M57 (pc' := 10) (st' := [.int 0]) rfl rfl rfl ?_
    exact pm_R_ret pm_M57 (r := some (.int 0)) rfl rfl (K0 (Or.inr (Int32.le_iff_toInt_le.mp (Int32.not_lt.mp c3))))
/-- again -/
theorem cl_c60 {a0 : Int32} {f : Nat → Option Nat} (G : cl_G ck E) (T : cl_T ck E m o h) (e24 : h.2.2 24 = .inl (8, 3, .inr (.inr (.inr (.inr f))))) (K0 : ((a0.toInt < 0 ∨ 3 ≤ a0.toInt) ∨ (0 ≤ a0.toInt ∧ a0.toInt < 3 ∧ f a0.toNatClampNeg = none)) → Q (some (.int 0)) h) (K1 : ∀ (t : Nat) (v1 v2 v3 : Int32) (m' : Nat → Int32) (h' : pm_H), 0 ≤ a0.toInt → a0.toInt < 3 → f a0.toNatClampNeg = some t → h.2.2 t = .inr (8, [.ref (t + 1), .int v1, .int v2, .int v3, .ref (t + 2), .ref (t + 3), .ref (t + 4), .ref (t + 5), .ref (t + 6)]) → m' 0 = v1 → cl_T ck E m' o h' → cl_F ck [17, 18, 19, 20, 21, 22, 23] 0 0 h h' → rf_W [0, 1, 2] m m' → (∀ x, (x < 17 ∨ 23 < x) → h'.2.2 x = h.2.2 x) → Q (some (.int 1)) h') : pm_R (d + 2) 60 0 [.ref 16, .int a0] [] h Q := by
  have h72 := T.1
  refine pm_R_lo pm_M60 (pc' := 1) rfl rfl rfl ?_
  refine pm_R_ifc pm_M60 (t := 18) (pc' := 4) rfl rfl rfl (fun c => ?_) (fun c => ?_)
  · refine pm_R_op pm_M60 (pc' := 19) (st' := [.int 0]) rfl rfl rfl ?_
    exact pm_R_ret pm_M60 (r := some (.int 0)) rfl rfl (K0 (Or.inl (Or.inl (Int32.lt_iff_toInt_lt.mp c))))
  have c0 : 0 ≤ a0.toInt := Int32.le_iff_toInt_le.mp (Int32.not_lt.mp c)
  refine pm_R_lo pm_M60 (pc' := 5) rfl rfl rfl ?_
  refine pm_R_op pm_M60 (pc' := 6) (st' := [.int 3, .int a0]) rfl rfl rfl ?_
  refine pm_R_icmp pm_M60 (t := 18) (pc' := 9) rfl rfl rfl (fun c3 => ?_) (fun c3 => ?_)
  · refine pm_R_op pm_M60 (pc' := 19) (st' := [.int 0]) rfl rfl rfl ?_
    exact pm_R_ret pm_M60 (r := some (.int 0)) rfl rfl (K0 (Or.inl (Or.inr (Int32.le_iff_toInt_le.mp c3))))
  · have c3' : a0.toInt < 3 := Int32.lt_iff_toInt_lt.mp (Int32.not_le.mp c3)
    have hj : pm_in a0 3 = true := sf_in (a := 0) (b := 2) ⟨c0, by omega⟩ (by decide) (by decide)
    obtain ⟨f0, ef0, hO⟩ := T.C 24 (by decide) (by decide)
    rw [e24] at ef0; cases ef0
    refine pm_R_lo pm_M60 (pc' := 10) rfl rfl rfl ?_
    refine pm_R_get pm_M60 (pc' := 13) (v := .ref 24) rfl rfl T.e16 (by decide) (T.lt (by decide)) rfl rfl ?_
    refine pm_R_lo pm_M60 (pc' := 14) rfl rfl rfl ?_
    rcases hs : f a0.toNatClampNeg with _ | t
    · refine pm_R_aald pm_M60 (pc' := 15) (v := .null) rfl e24 (by decide) (by decide) (by decide) (T.lt (by decide)) hj (by rw [hs]; rfl) rfl ?_
      refine pm_R_br pm_M60 (pc' := 18) rfl rfl ?_
      refine pm_R_op pm_M60 (pc' := 19) (st' := [.int 0]) rfl rfl rfl ?_
      exact pm_R_ret pm_M60 (r := some (.int 0)) rfl rfl (K0 (Or.inr ⟨c0, c3', hs⟩))
    · have hk := hO _ _ hs
      have ht72 := G.1 t (by rw [hk]; decide)
      obtain ⟨q1, q2, q3, q4, q5, q6⟩ := G.2.2.2.2.2.1 t hk
      have l6 := T.al q6 (by decide)
      refine pm_R_aald pm_M60 (pc' := 15) (v := .ref t) rfl e24 (by decide) (by decide) (by decide) (T.lt (by decide)) hj (by rw [hs]; rfl) rfl ?_
      refine pm_R_br pm_M60 (pc' := 20) rfl rfl ?_
      refine pm_R_lo pm_M60 (pc' := 21) rfl rfl rfl ?_
      refine pm_R_get pm_M60 (pc' := 24) (v := .ref 17) rfl rfl T.e16 (by decide) (T.lt (by decide)) rfl rfl ?_
      refine pm_R_lo pm_M60 (pc' := 25) rfl rfl rfl ?_
      refine pm_R_get pm_M60 (pc' := 28) (v := .ref 24) rfl rfl T.e16 (by decide) (T.lt (by decide)) rfl rfl ?_
      refine pm_R_lo pm_M60 (pc' := 29) rfl rfl rfl ?_
      refine pm_R_aald pm_M60 (pc' := 30) (v := .ref t) rfl e24 (by decide) (by decide) (by decide) (T.lt (by decide)) hj (by rw [hs]; rfl) rfl ?_
      obtain ⟨v1, v2, v3, b1, b2, b3, et, ⟨tp2, x1⟩, ⟨g1, x2, y1⟩, ⟨g2, x3, y2⟩, ⟨g3, x4, y3⟩, ⟨g4, x5, y4⟩, ⟨cc, x6, y6⟩, nn⟩ := T.D.1 t hk
      obtain ⟨tp, k1⟩ := T.C 18 (by decide) (by decide)
      obtain ⟨f1, k2, o1⟩ := T.C 19 (by decide) (by decide)
      obtain ⟨f2, k3, o2⟩ := T.C 20 (by decide) (by decide)
      obtain ⟨f3, k4, o3⟩ := T.C 21 (by decide) (by decide)
      obtain ⟨f4, k5, o4⟩ := T.C 22 (by decide) (by decide)
      obtain ⟨c2, k6, o6⟩ := T.C 23 (by decide) (by decide)
      refine pm_R_cv pm_M60 (pc' := 33) (a := 17) (ra := [.ref t]) (rest := []) (ls' := [.ref 17, .ref t]) rfl rfl (Or.inl rfl) pm_M58 T.e17 rfl (by decide) (T.lt (by decide)) rfl rfl (Nat.le_of_ble_eq_true rfl) rfl rfl ?_
      have nd : ∀ x, ck x ≠ 0 → x < 17 ∨ 17 + 6 < x := fun x hx => by have := G.1 x hx; omega
      refine cl_c58 (d := d) (a := 17) (b := t) (by decide) (by omega) (by omega) l6 (by omega) ⟨rfl, rfl, fun _ _ => rfl, T.e17, k1, k2, k3, k4, k5, k6⟩ et x1 x2 x3 x4 x5 x6 (fun i x hx => ?_) (fun i x hx => ?_) (fun i x hx => ?_) (fun i x hx => ?_) (fun h' P => ?_)
      · have z := y1 i x hx; obtain ⟨w1, w2, w3⟩ := cl_txt1 G T z; exact ⟨w1, w2, w3, nd x (by rw [z]; decide)⟩
      · have z := y2 i x hx; obtain ⟨w1, w2, w3⟩ := cl_txt2 G T z; exact ⟨w1, w2, w3, nd x (by rw [z]; decide)⟩
      · have z := y3 i x hx; obtain ⟨w1, w2, w3⟩ := cl_txt3 G T z; exact ⟨w1, w2, w3, nd x (by rw [z]; decide)⟩
      · have z := y4 i x hx; obtain ⟨w1, w2, w3⟩ := cl_txt4 G T z; exact ⟨w1, w2, w3, nd x (by rw [z]; decide)⟩
      · obtain ⟨p1, p2, p3, p4, z1, z2, z3, z4, z5, z6⟩ := P
        have hF : ∀ x, (x < 17 ∨ 23 < x) → h'.2.2 x = h.2.2 x := p3
        have T' : cl_T ck E (upd (upd (upd m 0 v1) 1 v2) 2 v3) o h' := by
          refine ⟨by omega, by rw [hF 16 (by omega)]; exact T.e16, p4, by rw [hF 25 (by omega)]; exact T.e25, by rw [hF 30 (by omega)]; exact T.e30, by rw [hF 31 (by omega)]; exact T.e31, by rw [hF 33 (by omega)]; exact T.e33, fun k => ?_, fun a a1 a2 => ?_, ((nn.fn x2 x3 x4 x5 x6).cp y6).back z2 z3 z4 z5 z6, fun a ha => by rw [p1]; exact T.2.2.2.2.2.2.2.2.2.2.1 a ha, fun a a1 a2 => by have := G.1 a (by omega); rw [hF a (by omega)]; exact T.2.2.2.2.2.2.2.2.2.2.2.1 a a1 a2, cl_D.low G T.D (fun b hb => hF b (by omega)), T.oo, fun a ha => by rw [hF a (by omega)]; exact T.old ha⟩
          · by_cases e0 : k = 2
            · subst e0; exact b3
            · by_cases e1 : k = 1
              · subst e1; exact b2
              · by_cases e2 : k = 0
                · subst e2; exact b1
                · have : upd (upd (upd m 0 v1) 1 v2) 2 v3 k = m k := by unfold upd; rw [if_neg e0, if_neg e1, if_neg e2]
                  rw [this]; exact T.B k
          · by_cases r : a < 18 ∨ 23 < a
            · by_cases e7 : a = 17
              · subst e7; exact trivial
              · rw [hF a (by omega)]; exact T.C a a1 a2
            · rcases (show a = 18 ∨ a = 19 ∨ a = 20 ∨ a = 21 ∨ a = 22 ∨ a = 23 by omega) with w | w | w | w | w | w <;> subst w
              · exact ⟨_, z1⟩
              · exact ⟨_, z2, (o1.upo (y1 0)).upo (y1 1)⟩
              · exact ⟨_, z3, ((o2.upo (y2 0)).upo (y2 1)).upo (y2 2)⟩
              · exact ⟨_, z4, (o3.upo (y3 0)).upo (y3 1)⟩
              · exact ⟨_, z5, (o4.upo (y4 0)).upo (y4 1)⟩
              · exact ⟨_, z6, cl_cpB o6 y6⟩
        show pm_R _ 60 33 [.ref 16, .int a0] [] _ _
        refine pm_R_op pm_M60 (pc' := 34) (st' := [.int 1]) rfl rfl rfl ?_
        refine pm_R_ret pm_M60 (r := some (.int 1)) rfl rfl (K1 t v1 v2 v3 _ h' c0 c3' rfl et rfl T' ⟨h72, by omega, by omega, by omega, fun a a1 a2 _ => hF a ?_⟩ (fun k hk => ?_) hF)
        · rcases Nat.lt_or_ge a 17 with w | w
          · exact Or.inl w
          · rcases Nat.lt_or_ge 23 a with y | y
            · exact Or.inr y
            · exact absurd (show a ∈ [17, 18, 19, 20, 21, 22, 23] by rcases (show a = 17 ∨ a = 18 ∨ a = 19 ∨ a = 20 ∨ a = 21 ∨ a = 22 ∨ a = 23 by omega) with w | w | w | w | w | w | w <;> (subst w; decide)) a2
        · have e0 : k ≠ 0 := fun z => hk (by rw [z]; decide)
          have e1 : k ≠ 1 := fun z => hk (by rw [z]; decide)
          have e2 : k ≠ 2 := fun z => hk (by rw [z]; decide)
          unfold upd; rw [if_neg e2, if_neg e1, if_neg e0]
end
