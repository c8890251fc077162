section
/-! images: made, taken, given back -/
variable {d : Nat} {h : pm_H} {Q : Option Value → pm_H → Prop} {ck : cl_K} {E : Nat → pm_E} {m : Nat → Int32} {o : Nat → Option Nat}
set_option maxHeartbeats 4000000 in
theorem cl_x2 {t : Nat} (e1c : h.2.2 1 = .inl (0, 4, .inl (fun j => pm_sv1.getD j 0))) (et : h.2.2 t = .inr (8, [.null, .int 0, .int 0, .int 0, .null, .null, .null, .null, .null])) (h72 : 72 ≤ t) (ht : h.1 = t + 1) (K : ∀ h' : pm_H, h'.1 = t + 7 → h'.2.1 = h.2.1 + 600 + 2 + 3 + 2 + 2 + 4 → (∀ b, b < t → h'.2.2 b = h.2.2 b) → h'.2.2 t = .inr (8, [.ref (t + 1), .int 0, .int 0, .int (-1), .ref (t + 2), .ref (t + 3), .ref (t + 4), .ref (t + 5), .ref (t + 6)]) → h'.2.2 (t + 1) = .inl (2, 600, .inl (fun _ => (0 : Int32))) → h'.2.2 (t + 2) = .inl (4, 2, .inr (.inr (.inr (.inr (fun _ => none))))) → h'.2.2 (t + 3) = .inl (5, 3, .inr (.inr (.inr (.inr (fun _ => none))))) → h'.2.2 (t + 4) = .inl (6, 2, .inr (.inr (.inr (.inr (fun _ => none))))) → h'.2.2 (t + 5) = .inl (7, 2, .inr (.inr (.inr (.inr (fun _ => none))))) → h'.2.2 (t + 6) = .inl (0, 4, .inl (fun _ => (0 : Int32))) → Q none h') : pm_R (d + 0) 2 0 [.ref t] [] h Q := by
  refine pm_R_lo pm_M2 (pc' := 1) rfl rfl rfl ?_
  refine pm_R_obj pm_M2 (pc' := 4) rfl rfl rfl (Nat.le_of_ble_eq_true rfl) rfl ?_
  refine pm_R_lo pm_M2 (pc' := 5) rfl rfl rfl ?_
  refine pm_R_op pm_M2 (pc' := 8) (st' := [.int 600, .ref t]) rfl rfl rfl ?_
  refine pm_R_newa pm_M2 (pc' := 10) (N := 600) rfl rfl (by decide) rfl (Nat.le_of_ble_eq_true rfl) rfl ?_
  obtain ⟨h1, e1⟩ : ∃ z, pm_push h (.inl (2, pm_newty 2 600)) 600 = z := ⟨_, rfl⟩
  have a1 : h1.1 = t + 2 := by rw [← e1]; show h.1 + 1 = _; omega
  have s1 : h1.2.1 = h.2.1 + 600 := by rw [← e1]; rfl
  have o1 : ∀ b, b < t → h1.2.2 b = h.2.2 b := fun b hb => by rw [← e1, cl_push_lt (by omega)]
  have t1 : h1.2.2 t = .inr (8, [.null, .int 0, .int 0, .int 0, .null, .null, .null, .null, .null]) := by rw [← e1]; rw [cl_push_lt (by omega)]; exact et
  have c1_1 : h1.2.2 (t + 1) = .inl (2, 600, .inl (fun _ => (0 : Int32))) := by rw [← e1, ← ht]; exact cl_push_eq
  rw [e1, ht]
  refine pm_R_put pm_M2 (pc' := 13) (fs' := [.ref (t + 1), .int 0, .int 0, .int 0, .null, .null, .null, .null, .null]) rfl rfl rfl t1 (by omega) (by omega) (Nat.le_of_ble_eq_true rfl) rfl (Or.inr ⟨pm_N2_ini, rfl, rfl⟩) rfl rfl ?_
  obtain ⟨h2, e2⟩ : ∃ z, pm_set h1 t (.inr (8, [.ref (t + 1), .int 0, .int 0, .int 0, .null, .null, .null, .null, .null])) = z := ⟨_, rfl⟩
  have a2 : h2.1 = t + 2 := by rw [← e2]; exact a1
  have s2 : h2.2.1 = h.2.1 + 600 := by rw [← e2]; exact s1
  have o2 : ∀ b, b < t → h2.2.2 b = h.2.2 b := fun b hb => by rw [← e2, cl_set_ne (by omega)]; exact o1 b hb
  have t2 : h2.2.2 t = .inr (8, [.ref (t + 1), .int 0, .int 0, .int 0, .null, .null, .null, .null, .null]) := by rw [← e2]; exact cl_set_eq
  have c1_2 : h2.2.2 (t + 1) = .inl (2, 600, .inl (fun _ => (0 : Int32))) := by rw [← e2, cl_set_ne (by omega)]; exact c1_1
  rw [e2]
  refine pm_R_lo pm_M2 (pc' := 14) rfl rfl rfl ?_
  refine pm_R_op pm_M2 (pc' := 15) (st' := [.int 0, .ref t]) rfl rfl rfl ?_
  refine pm_R_put pm_M2 (pc' := 18) (fs' := [.ref (t + 1), .int 0, .int 0, .int 0, .null, .null, .null, .null, .null]) rfl rfl rfl t2 (by omega) (by omega) (Nat.le_of_ble_eq_true rfl) rfl (Or.inr ⟨pm_N2_ini, rfl, rfl⟩) rfl rfl ?_
  obtain ⟨h3, e3⟩ : ∃ z, pm_set h2 t (.inr (8, [.ref (t + 1), .int 0, .int 0, .int 0, .null, .null, .null, .null, .null])) = z := ⟨_, rfl⟩
  have a3 : h3.1 = t + 2 := by rw [← e3]; exact a2
  have s3 : h3.2.1 = h.2.1 + 600 := by rw [← e3]; exact s2
  have o3 : ∀ b, b < t → h3.2.2 b = h.2.2 b := fun b hb => by rw [← e3, cl_set_ne (by omega)]; exact o2 b hb
  have t3 : h3.2.2 t = .inr (8, [.ref (t + 1), .int 0, .int 0, .int 0, .null, .null, .null, .null, .null]) := by rw [← e3]; exact cl_set_eq
  have c1_3 : h3.2.2 (t + 1) = .inl (2, 600, .inl (fun _ => (0 : Int32))) := by rw [← e3, cl_set_ne (by omega)]; exact c1_2
  rw [e3]
  refine pm_R_lo pm_M2 (pc' := 19) rfl rfl rfl ?_
  refine pm_R_op pm_M2 (pc' := 20) (st' := [.int 0, .ref t]) rfl rfl rfl ?_
  refine pm_R_put pm_M2 (pc' := 23) (fs' := [.ref (t + 1), .int 0, .int 0, .int 0, .null, .null, .null, .null, .null]) rfl rfl rfl t3 (by omega) (by omega) (Nat.le_of_ble_eq_true rfl) rfl (Or.inr ⟨pm_N2_ini, rfl, rfl⟩) rfl rfl ?_
  obtain ⟨h4, e4⟩ : ∃ z, pm_set h3 t (.inr (8, [.ref (t + 1), .int 0, .int 0, .int 0, .null, .null, .null, .null, .null])) = z := ⟨_, rfl⟩
  have a4 : h4.1 = t + 2 := by rw [← e4]; exact a3
  have s4 : h4.2.1 = h.2.1 + 600 := by rw [← e4]; exact s3
  have o4 : ∀ b, b < t → h4.2.2 b = h.2.2 b := fun b hb => by rw [← e4, cl_set_ne (by omega)]; exact o3 b hb
  have t4 : h4.2.2 t = .inr (8, [.ref (t + 1), .int 0, .int 0, .int 0, .null, .null, .null, .null, .null]) := by rw [← e4]; exact cl_set_eq
  have c1_4 : h4.2.2 (t + 1) = .inl (2, 600, .inl (fun _ => (0 : Int32))) := by rw [← e4, cl_set_ne (by omega)]; exact c1_3
  rw [e4]
  refine pm_R_lo pm_M2 (pc' := 24) rfl rfl rfl ?_
  refine pm_R_op pm_M2 (pc' := 25) (st' := [.int (-1), .ref t]) rfl rfl rfl ?_
  refine pm_R_put pm_M2 (pc' := 28) (fs' := [.ref (t + 1), .int 0, .int 0, .int (-1), .null, .null, .null, .null, .null]) rfl rfl rfl t4 (by omega) (by omega) (Nat.le_of_ble_eq_true rfl) rfl (Or.inr ⟨pm_N2_ini, rfl, rfl⟩) rfl rfl ?_
  obtain ⟨h5, e5⟩ : ∃ z, pm_set h4 t (.inr (8, [.ref (t + 1), .int 0, .int 0, .int (-1), .null, .null, .null, .null, .null])) = z := ⟨_, rfl⟩
  have a5 : h5.1 = t + 2 := by rw [← e5]; exact a4
  have s5 : h5.2.1 = h.2.1 + 600 := by rw [← e5]; exact s4
  have o5 : ∀ b, b < t → h5.2.2 b = h.2.2 b := fun b hb => by rw [← e5, cl_set_ne (by omega)]; exact o4 b hb
  have t5 : h5.2.2 t = .inr (8, [.ref (t + 1), .int 0, .int 0, .int (-1), .null, .null, .null, .null, .null]) := by rw [← e5]; exact cl_set_eq
  have c1_5 : h5.2.2 (t + 1) = .inl (2, 600, .inl (fun _ => (0 : Int32))) := by rw [← e5, cl_set_ne (by omega)]; exact c1_4
  rw [e5]
  refine pm_R_lo pm_M2 (pc' := 29) rfl rfl rfl ?_
  refine pm_R_stat pm_M2 (pc' := 32) rfl rfl rfl ?_
  refine pm_R_op pm_M2 (pc' := 33) (st' := [.int 0, .ref 1, .ref t]) rfl rfl rfl ?_
  refine pm_R_iald pm_M2 (pc' := 34) (v := 2) rfl ((o5 1 (by omega)).trans e1c) (by omega) rfl rfl rfl ?_
  refine pm_R_newq pm_M2 (pc' := 37) (N := 2) rfl rfl rfl (by decide) rfl (Nat.le_of_ble_eq_true rfl) rfl ?_
  obtain ⟨h6, e6⟩ : ∃ z, pm_push h5 (.inl (4, pm_newty 4 2)) 2 = z := ⟨_, rfl⟩
  have a6 : h6.1 = t + 3 := by rw [← e6]; show h5.1 + 1 = _; omega
  have s6 : h6.2.1 = h.2.1 + 600 + 2 := by rw [← e6]; show h5.2.1 + _ = _; rw [s5]
  have o6 : ∀ b, b < t → h6.2.2 b = h.2.2 b := fun b hb => by rw [← e6, cl_push_lt (by omega)]; exact o5 b hb
  have t6 : h6.2.2 t = .inr (8, [.ref (t + 1), .int 0, .int 0, .int (-1), .null, .null, .null, .null, .null]) := by rw [← e6]; rw [cl_push_lt (by omega)]; exact t5
  have c1_6 : h6.2.2 (t + 1) = .inl (2, 600, .inl (fun _ => (0 : Int32))) := by rw [← e6, cl_push_lt (by omega)]; exact c1_5
  have c2_6 : h6.2.2 (t + 2) = .inl (4, 2, .inr (.inr (.inr (.inr (fun _ => none))))) := by rw [← e6, ← a5]; exact cl_push_eq
  rw [e6, a5]
  refine pm_R_put pm_M2 (pc' := 40) (fs' := [.ref (t + 1), .int 0, .int 0, .int (-1), .ref (t + 2), .null, .null, .null, .null]) rfl rfl rfl t6 (by omega) (by omega) (Nat.le_of_ble_eq_true rfl) rfl (Or.inr ⟨pm_N2_ini, rfl, rfl⟩) rfl rfl ?_
  obtain ⟨h7, e7⟩ : ∃ z, pm_set h6 t (.inr (8, [.ref (t + 1), .int 0, .int 0, .int (-1), .ref (t + 2), .null, .null, .null, .null])) = z := ⟨_, rfl⟩
  have a7 : h7.1 = t + 3 := by rw [← e7]; exact a6
  have s7 : h7.2.1 = h.2.1 + 600 + 2 := by rw [← e7]; exact s6
  have o7 : ∀ b, b < t → h7.2.2 b = h.2.2 b := fun b hb => by rw [← e7, cl_set_ne (by omega)]; exact o6 b hb
  have t7 : h7.2.2 t = .inr (8, [.ref (t + 1), .int 0, .int 0, .int (-1), .ref (t + 2), .null, .null, .null, .null]) := by rw [← e7]; exact cl_set_eq
  have c1_7 : h7.2.2 (t + 1) = .inl (2, 600, .inl (fun _ => (0 : Int32))) := by rw [← e7, cl_set_ne (by omega)]; exact c1_6
  have c2_7 : h7.2.2 (t + 2) = .inl (4, 2, .inr (.inr (.inr (.inr (fun _ => none))))) := by rw [← e7, cl_set_ne (by omega)]; exact c2_6
  rw [e7]
  refine pm_R_lo pm_M2 (pc' := 41) rfl rfl rfl ?_
  refine pm_R_stat pm_M2 (pc' := 44) rfl rfl rfl ?_
  refine pm_R_op pm_M2 (pc' := 45) (st' := [.int 1, .ref 1, .ref t]) rfl rfl rfl ?_
  refine pm_R_iald pm_M2 (pc' := 46) (v := 3) rfl ((o7 1 (by omega)).trans e1c) (by omega) rfl rfl rfl ?_
  refine pm_R_newq pm_M2 (pc' := 49) (N := 3) rfl rfl rfl (by decide) rfl (Nat.le_of_ble_eq_true rfl) rfl ?_
  obtain ⟨h8, e8⟩ : ∃ z, pm_push h7 (.inl (5, pm_newty 5 3)) 3 = z := ⟨_, rfl⟩
  have a8 : h8.1 = t + 4 := by rw [← e8]; show h7.1 + 1 = _; omega
  have s8 : h8.2.1 = h.2.1 + 600 + 2 + 3 := by rw [← e8]; show h7.2.1 + _ = _; rw [s7]
  have o8 : ∀ b, b < t → h8.2.2 b = h.2.2 b := fun b hb => by rw [← e8, cl_push_lt (by omega)]; exact o7 b hb
  have t8 : h8.2.2 t = .inr (8, [.ref (t + 1), .int 0, .int 0, .int (-1), .ref (t + 2), .null, .null, .null, .null]) := by rw [← e8]; rw [cl_push_lt (by omega)]; exact t7
  have c1_8 : h8.2.2 (t + 1) = .inl (2, 600, .inl (fun _ => (0 : Int32))) := by rw [← e8, cl_push_lt (by omega)]; exact c1_7
  have c2_8 : h8.2.2 (t + 2) = .inl (4, 2, .inr (.inr (.inr (.inr (fun _ => none))))) := by rw [← e8, cl_push_lt (by omega)]; exact c2_7
  have c3_8 : h8.2.2 (t + 3) = .inl (5, 3, .inr (.inr (.inr (.inr (fun _ => none))))) := by rw [← e8, ← a7]; exact cl_push_eq
  rw [e8, a7]
  refine pm_R_put pm_M2 (pc' := 52) (fs' := [.ref (t + 1), .int 0, .int 0, .int (-1), .ref (t + 2), .ref (t + 3), .null, .null, .null]) rfl rfl rfl t8 (by omega) (by omega) (Nat.le_of_ble_eq_true rfl) rfl (Or.inr ⟨pm_N2_ini, rfl, rfl⟩) rfl rfl ?_
  obtain ⟨h9, e9⟩ : ∃ z, pm_set h8 t (.inr (8, [.ref (t + 1), .int 0, .int 0, .int (-1), .ref (t + 2), .ref (t + 3), .null, .null, .null])) = z := ⟨_, rfl⟩
  have a9 : h9.1 = t + 4 := by rw [← e9]; exact a8
  have s9 : h9.2.1 = h.2.1 + 600 + 2 + 3 := by rw [← e9]; exact s8
  have o9 : ∀ b, b < t → h9.2.2 b = h.2.2 b := fun b hb => by rw [← e9, cl_set_ne (by omega)]; exact o8 b hb
  have t9 : h9.2.2 t = .inr (8, [.ref (t + 1), .int 0, .int 0, .int (-1), .ref (t + 2), .ref (t + 3), .null, .null, .null]) := by rw [← e9]; exact cl_set_eq
  have c1_9 : h9.2.2 (t + 1) = .inl (2, 600, .inl (fun _ => (0 : Int32))) := by rw [← e9, cl_set_ne (by omega)]; exact c1_8
  have c2_9 : h9.2.2 (t + 2) = .inl (4, 2, .inr (.inr (.inr (.inr (fun _ => none))))) := by rw [← e9, cl_set_ne (by omega)]; exact c2_8
  have c3_9 : h9.2.2 (t + 3) = .inl (5, 3, .inr (.inr (.inr (.inr (fun _ => none))))) := by rw [← e9, cl_set_ne (by omega)]; exact c3_8
  rw [e9]
  refine pm_R_lo pm_M2 (pc' := 53) rfl rfl rfl ?_
  refine pm_R_stat pm_M2 (pc' := 56) rfl rfl rfl ?_
  refine pm_R_op pm_M2 (pc' := 57) (st' := [.int 2, .ref 1, .ref t]) rfl rfl rfl ?_
  refine pm_R_iald pm_M2 (pc' := 58) (v := 2) rfl ((o9 1 (by omega)).trans e1c) (by omega) rfl rfl rfl ?_
  refine pm_R_newq pm_M2 (pc' := 61) (N := 2) rfl rfl rfl (by decide) rfl (Nat.le_of_ble_eq_true rfl) rfl ?_
  obtain ⟨h10, e10⟩ : ∃ z, pm_push h9 (.inl (6, pm_newty 6 2)) 2 = z := ⟨_, rfl⟩
  have a10 : h10.1 = t + 5 := by rw [← e10]; show h9.1 + 1 = _; omega
  have s10 : h10.2.1 = h.2.1 + 600 + 2 + 3 + 2 := by rw [← e10]; show h9.2.1 + _ = _; rw [s9]
  have o10 : ∀ b, b < t → h10.2.2 b = h.2.2 b := fun b hb => by rw [← e10, cl_push_lt (by omega)]; exact o9 b hb
  have t10 : h10.2.2 t = .inr (8, [.ref (t + 1), .int 0, .int 0, .int (-1), .ref (t + 2), .ref (t + 3), .null, .null, .null]) := by rw [← e10]; rw [cl_push_lt (by omega)]; exact t9
  have c1_10 : h10.2.2 (t + 1) = .inl (2, 600, .inl (fun _ => (0 : Int32))) := by rw [← e10, cl_push_lt (by omega)]; exact c1_9
  have c2_10 : h10.2.2 (t + 2) = .inl (4, 2, .inr (.inr (.inr (.inr (fun _ => none))))) := by rw [← e10, cl_push_lt (by omega)]; exact c2_9
  have c3_10 : h10.2.2 (t + 3) = .inl (5, 3, .inr (.inr (.inr (.inr (fun _ => none))))) := by rw [← e10, cl_push_lt (by omega)]; exact c3_9
  have c4_10 : h10.2.2 (t + 4) = .inl (6, 2, .inr (.inr (.inr (.inr (fun _ => none))))) := by rw [← e10, ← a9]; exact cl_push_eq
  rw [e10, a9]
  refine pm_R_put pm_M2 (pc' := 64) (fs' := [.ref (t + 1), .int 0, .int 0, .int (-1), .ref (t + 2), .ref (t + 3), .ref (t + 4), .null, .null]) rfl rfl rfl t10 (by omega) (by omega) (Nat.le_of_ble_eq_true rfl) rfl (Or.inr ⟨pm_N2_ini, rfl, rfl⟩) rfl rfl ?_
  obtain ⟨h11, e11⟩ : ∃ z, pm_set h10 t (.inr (8, [.ref (t + 1), .int 0, .int 0, .int (-1), .ref (t + 2), .ref (t + 3), .ref (t + 4), .null, .null])) = z := ⟨_, rfl⟩
  have a11 : h11.1 = t + 5 := by rw [← e11]; exact a10
  have s11 : h11.2.1 = h.2.1 + 600 + 2 + 3 + 2 := by rw [← e11]; exact s10
  have o11 : ∀ b, b < t → h11.2.2 b = h.2.2 b := fun b hb => by rw [← e11, cl_set_ne (by omega)]; exact o10 b hb
  have t11 : h11.2.2 t = .inr (8, [.ref (t + 1), .int 0, .int 0, .int (-1), .ref (t + 2), .ref (t + 3), .ref (t + 4), .null, .null]) := by rw [← e11]; exact cl_set_eq
  have c1_11 : h11.2.2 (t + 1) = .inl (2, 600, .inl (fun _ => (0 : Int32))) := by rw [← e11, cl_set_ne (by omega)]; exact c1_10
  have c2_11 : h11.2.2 (t + 2) = .inl (4, 2, .inr (.inr (.inr (.inr (fun _ => none))))) := by rw [← e11, cl_set_ne (by omega)]; exact c2_10
  have c3_11 : h11.2.2 (t + 3) = .inl (5, 3, .inr (.inr (.inr (.inr (fun _ => none))))) := by rw [← e11, cl_set_ne (by omega)]; exact c3_10
  have c4_11 : h11.2.2 (t + 4) = .inl (6, 2, .inr (.inr (.inr (.inr (fun _ => none))))) := by rw [← e11, cl_set_ne (by omega)]; exact c4_10
  rw [e11]
  refine pm_R_lo pm_M2 (pc' := 65) rfl rfl rfl ?_
  refine pm_R_stat pm_M2 (pc' := 68) rfl rfl rfl ?_
  refine pm_R_op pm_M2 (pc' := 69) (st' := [.int 3, .ref 1, .ref t]) rfl rfl rfl ?_
  refine pm_R_iald pm_M2 (pc' := 70) (v := 2) rfl ((o11 1 (by omega)).trans e1c) (by omega) rfl rfl rfl ?_
  refine pm_R_newq pm_M2 (pc' := 73) (N := 2) rfl rfl rfl (by decide) rfl (Nat.le_of_ble_eq_true rfl) rfl ?_
  obtain ⟨h12, e12⟩ : ∃ z, pm_push h11 (.inl (7, pm_newty 7 2)) 2 = z := ⟨_, rfl⟩
  have a12 : h12.1 = t + 6 := by rw [← e12]; show h11.1 + 1 = _; omega
  have s12 : h12.2.1 = h.2.1 + 600 + 2 + 3 + 2 + 2 := by rw [← e12]; show h11.2.1 + _ = _; rw [s11]
  have o12 : ∀ b, b < t → h12.2.2 b = h.2.2 b := fun b hb => by rw [← e12, cl_push_lt (by omega)]; exact o11 b hb
  have t12 : h12.2.2 t = .inr (8, [.ref (t + 1), .int 0, .int 0, .int (-1), .ref (t + 2), .ref (t + 3), .ref (t + 4), .null, .null]) := by rw [← e12]; rw [cl_push_lt (by omega)]; exact t11
  have c1_12 : h12.2.2 (t + 1) = .inl (2, 600, .inl (fun _ => (0 : Int32))) := by rw [← e12, cl_push_lt (by omega)]; exact c1_11
  have c2_12 : h12.2.2 (t + 2) = .inl (4, 2, .inr (.inr (.inr (.inr (fun _ => none))))) := by rw [← e12, cl_push_lt (by omega)]; exact c2_11
  have c3_12 : h12.2.2 (t + 3) = .inl (5, 3, .inr (.inr (.inr (.inr (fun _ => none))))) := by rw [← e12, cl_push_lt (by omega)]; exact c3_11
  have c4_12 : h12.2.2 (t + 4) = .inl (6, 2, .inr (.inr (.inr (.inr (fun _ => none))))) := by rw [← e12, cl_push_lt (by omega)]; exact c4_11
  have c5_12 : h12.2.2 (t + 5) = .inl (7, 2, .inr (.inr (.inr (.inr (fun _ => none))))) := by rw [← e12, ← a11]; exact cl_push_eq
  rw [e12, a11]
  refine pm_R_put pm_M2 (pc' := 76) (fs' := [.ref (t + 1), .int 0, .int 0, .int (-1), .ref (t + 2), .ref (t + 3), .ref (t + 4), .ref (t + 5), .null]) rfl rfl rfl t12 (by omega) (by omega) (Nat.le_of_ble_eq_true rfl) rfl (Or.inr ⟨pm_N2_ini, rfl, rfl⟩) rfl rfl ?_
  obtain ⟨h13, e13⟩ : ∃ z, pm_set h12 t (.inr (8, [.ref (t + 1), .int 0, .int 0, .int (-1), .ref (t + 2), .ref (t + 3), .ref (t + 4), .ref (t + 5), .null])) = z := ⟨_, rfl⟩
  have a13 : h13.1 = t + 6 := by rw [← e13]; exact a12
  have s13 : h13.2.1 = h.2.1 + 600 + 2 + 3 + 2 + 2 := by rw [← e13]; exact s12
  have o13 : ∀ b, b < t → h13.2.2 b = h.2.2 b := fun b hb => by rw [← e13, cl_set_ne (by omega)]; exact o12 b hb
  have t13 : h13.2.2 t = .inr (8, [.ref (t + 1), .int 0, .int 0, .int (-1), .ref (t + 2), .ref (t + 3), .ref (t + 4), .ref (t + 5), .null]) := by rw [← e13]; exact cl_set_eq
  have c1_13 : h13.2.2 (t + 1) = .inl (2, 600, .inl (fun _ => (0 : Int32))) := by rw [← e13, cl_set_ne (by omega)]; exact c1_12
  have c2_13 : h13.2.2 (t + 2) = .inl (4, 2, .inr (.inr (.inr (.inr (fun _ => none))))) := by rw [← e13, cl_set_ne (by omega)]; exact c2_12
  have c3_13 : h13.2.2 (t + 3) = .inl (5, 3, .inr (.inr (.inr (.inr (fun _ => none))))) := by rw [← e13, cl_set_ne (by omega)]; exact c3_12
  have c4_13 : h13.2.2 (t + 4) = .inl (6, 2, .inr (.inr (.inr (.inr (fun _ => none))))) := by rw [← e13, cl_set_ne (by omega)]; exact c4_12
  have c5_13 : h13.2.2 (t + 5) = .inl (7, 2, .inr (.inr (.inr (.inr (fun _ => none))))) := by rw [← e13, cl_set_ne (by omega)]; exact c5_12
  rw [e13]
  refine pm_R_lo pm_M2 (pc' := 77) rfl rfl rfl ?_
  refine pm_R_op pm_M2 (pc' := 78) (st' := [.int 4, .ref t]) rfl rfl rfl ?_
  refine pm_R_newa pm_M2 (pc' := 80) (N := 4) rfl rfl (by decide) rfl (Nat.le_of_ble_eq_true rfl) rfl ?_
  obtain ⟨h14, e14⟩ : ∃ z, pm_push h13 (.inl (0, pm_newty 0 4)) 4 = z := ⟨_, rfl⟩
  have a14 : h14.1 = t + 7 := by rw [← e14]; show h13.1 + 1 = _; omega
  have s14 : h14.2.1 = h.2.1 + 600 + 2 + 3 + 2 + 2 + 4 := by rw [← e14]; show h13.2.1 + _ = _; rw [s13]
  have o14 : ∀ b, b < t → h14.2.2 b = h.2.2 b := fun b hb => by rw [← e14, cl_push_lt (by omega)]; exact o13 b hb
  have t14 : h14.2.2 t = .inr (8, [.ref (t + 1), .int 0, .int 0, .int (-1), .ref (t + 2), .ref (t + 3), .ref (t + 4), .ref (t + 5), .null]) := by rw [← e14]; rw [cl_push_lt (by omega)]; exact t13
  have c1_14 : h14.2.2 (t + 1) = .inl (2, 600, .inl (fun _ => (0 : Int32))) := by rw [← e14, cl_push_lt (by omega)]; exact c1_13
  have c2_14 : h14.2.2 (t + 2) = .inl (4, 2, .inr (.inr (.inr (.inr (fun _ => none))))) := by rw [← e14, cl_push_lt (by omega)]; exact c2_13
  have c3_14 : h14.2.2 (t + 3) = .inl (5, 3, .inr (.inr (.inr (.inr (fun _ => none))))) := by rw [← e14, cl_push_lt (by omega)]; exact c3_13
  have c4_14 : h14.2.2 (t + 4) = .inl (6, 2, .inr (.inr (.inr (.inr (fun _ => none))))) := by rw [← e14, cl_push_lt (by omega)]; exact c4_13
  have c5_14 : h14.2.2 (t + 5) = .inl (7, 2, .inr (.inr (.inr (.inr (fun _ => none))))) := by rw [← e14, cl_push_lt (by omega)]; exact c5_13
  have c6_14 : h14.2.2 (t + 6) = .inl (0, 4, .inl (fun _ => (0 : Int32))) := by rw [← e14, ← a13]; exact cl_push_eq
  rw [e14, a13]
  refine pm_R_put pm_M2 (pc' := 83) (fs' := [.ref (t + 1), .int 0, .int 0, .int (-1), .ref (t + 2), .ref (t + 3), .ref (t + 4), .ref (t + 5), .ref (t + 6)]) rfl rfl rfl t14 (by omega) (by omega) (Nat.le_of_ble_eq_true rfl) rfl (Or.inr ⟨pm_N2_ini, rfl, rfl⟩) rfl rfl ?_
  obtain ⟨h15, e15⟩ : ∃ z, pm_set h14 t (.inr (8, [.ref (t + 1), .int 0, .int 0, .int (-1), .ref (t + 2), .ref (t + 3), .ref (t + 4), .ref (t + 5), .ref (t + 6)])) = z := ⟨_, rfl⟩
  have a15 : h15.1 = t + 7 := by rw [← e15]; exact a14
  have s15 : h15.2.1 = h.2.1 + 600 + 2 + 3 + 2 + 2 + 4 := by rw [← e15]; exact s14
  have o15 : ∀ b, b < t → h15.2.2 b = h.2.2 b := fun b hb => by rw [← e15, cl_set_ne (by omega)]; exact o14 b hb
  have t15 : h15.2.2 t = .inr (8, [.ref (t + 1), .int 0, .int 0, .int (-1), .ref (t + 2), .ref (t + 3), .ref (t + 4), .ref (t + 5), .ref (t + 6)]) := by rw [← e15]; exact cl_set_eq
  have c1_15 : h15.2.2 (t + 1) = .inl (2, 600, .inl (fun _ => (0 : Int32))) := by rw [← e15, cl_set_ne (by omega)]; exact c1_14
  have c2_15 : h15.2.2 (t + 2) = .inl (4, 2, .inr (.inr (.inr (.inr (fun _ => none))))) := by rw [← e15, cl_set_ne (by omega)]; exact c2_14
  have c3_15 : h15.2.2 (t + 3) = .inl (5, 3, .inr (.inr (.inr (.inr (fun _ => none))))) := by rw [← e15, cl_set_ne (by omega)]; exact c3_14
  have c4_15 : h15.2.2 (t + 4) = .inl (6, 2, .inr (.inr (.inr (.inr (fun _ => none))))) := by rw [← e15, cl_set_ne (by omega)]; exact c4_14
  have c5_15 : h15.2.2 (t + 5) = .inl (7, 2, .inr (.inr (.inr (.inr (fun _ => none))))) := by rw [← e15, cl_set_ne (by omega)]; exact c5_14
  have c6_15 : h15.2.2 (t + 6) = .inl (0, 4, .inl (fun _ => (0 : Int32))) := by rw [← e15, cl_set_ne (by omega)]; exact c6_14
  rw [e15]
  exact pm_R_ret pm_M2 (r := none) rfl rfl (K _ a15 s15 o15 t15 c1_15 c2_15 c3_15 c4_15 c5_15 c6_15)
end
