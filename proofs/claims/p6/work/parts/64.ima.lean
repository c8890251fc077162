section
/-! what was told, new: piece by piece -/
variable {d : Nat} {h : pm_H} {Q : Option Value → pm_H → Prop}
theorem cl_push_s {x : pm_E} {n : Nat} : (pm_push h x n).2.1 = h.2.1 + n := rfl
theorem cl_x2_0 {t : Nat} (e1c : h.2.2 1 = .inl (0, 4, .inl (fun j => pm_sv1.getD j 0))) (et : h.2.2 t = .inr (8, [.null, .int 0, .int 0, .int 0, .null, .null, .null, .null, .null])) (h72 : 72 ≤ t) (ht : h.1 = t + 1) (K : ∀ h' : pm_H, h'.1 = t + 2 → h'.2.1 = h.2.1 + 600 → (∀ b, b ≠ t → b < t + 1 → h'.2.2 b = h.2.2 b) → h'.2.2 t = .inr (8, [.ref (t + 1), .int 0, .int 0, .int 0, .null, .null, .null, .null, .null]) → h'.2.2 (t + 1) = .inl (2, 600, .inl (fun _ => (0 : Int32))) → pm_R (d + 0) 2 13 [.ref t] [] h' Q) : pm_R (d + 0) 2 0 [.ref t] [] h Q := by
  refine pm_R_lo pm_M2 (pc' := 1) rfl rfl rfl ?_
  refine pm_R_obj pm_M2 (pc' := 4) rfl rfl rfl (Nat.le_of_ble_eq_true rfl) rfl ?_
  refine pm_R_lo pm_M2 (pc' := 5) rfl rfl rfl ?_
  refine pm_R_op pm_M2 (pc' := 8) (st' := [.int 600, .ref t]) rfl rfl rfl ?_
  refine pm_R_newa pm_M2 (pc' := 10) (N := 600) rfl rfl (by decide) rfl (Nat.le_of_ble_eq_true rfl) rfl ?_
  obtain ⟨h1, e1⟩ : ∃ z, pm_push h (.inl (2, pm_newty 2 600)) 600 = z := ⟨_, rfl⟩
  have a1 : h1.1 = h.1 + 1 := by rw [← e1]; rfl
  have s1 : h1.2.1 = h.2.1 + 600 := by rw [← e1]; exact cl_push_s
  have o1 : ∀ b, b < h.1 → h1.2.2 b = h.2.2 b := fun b hb => by rw [← e1]; exact cl_push_lt hb
  have n1 : h1.2.2 h.1 = .inl (2, 600, .inl (fun _ => (0 : Int32))) := by rw [← e1]; exact cl_push_eq
  rw [ht] at n1
  show pm_R _ 2 _ [.ref t] [.ref h.1, .ref t] (pm_push h (.inl (2, pm_newty 2 600)) 600) _
  rw [e1, ht]
  refine pm_R_put pm_M2 (pc' := 13) (fs' := [.ref (t + 1), .int 0, .int 0, .int 0, .null, .null, .null, .null, .null]) rfl rfl rfl ((o1 t (by omega)).trans et) (by omega) (by omega) (Nat.le_of_ble_eq_true rfl) rfl (Or.inr ⟨pm_N2_ini, rfl, rfl⟩) rfl rfl ?_
  exact K _ (by show h1.1 = _; omega) s1 (fun b hb hlt => by rw [cl_set_ne hb]; exact o1 b (by omega)) cl_set_eq (by rw [cl_set_ne (by omega)]; exact n1)
theorem cl_x2_n {t : Nat} (et : h.2.2 t = .inr (8, [.ref (t + 1), .int 0, .int 0, .int 0, .null, .null, .null, .null, .null])) (h72 : 72 ≤ t) (ht : t < h.1) (K : ∀ h' : pm_H, h'.1 = h.1 → h'.2.1 = h.2.1 → (∀ b, b ≠ t → h'.2.2 b = h.2.2 b) → h'.2.2 t = .inr (8, [.ref (t + 1), .int 0, .int 0, .int (-1), .null, .null, .null, .null, .null]) → pm_R (d + 0) 2 28 [.ref t] [] h' Q) : pm_R (d + 0) 2 13 [.ref t] [] h Q := by
  refine pm_R_lo pm_M2 (pc' := 14) rfl rfl rfl ?_
  refine pm_R_op pm_M2 (pc' := 15) (st' := [.int 0, .ref t]) rfl rfl rfl ?_
  refine pm_R_put pm_M2 (pc' := 18) (fs' := [.ref (t + 1), .int 0, .int 0, .int 0, .null, .null, .null, .null, .null]) rfl rfl rfl et (by omega) ht (Nat.le_of_ble_eq_true rfl) rfl (Or.inr ⟨pm_N2_ini, rfl, rfl⟩) rfl rfl ?_
  refine pm_R_lo pm_M2 (pc' := 19) rfl rfl rfl ?_
  refine pm_R_op pm_M2 (pc' := 20) (st' := [.int 0, .ref t]) rfl rfl rfl ?_
  refine pm_R_put pm_M2 (pc' := 23) (fs' := [.ref (t + 1), .int 0, .int 0, .int 0, .null, .null, .null, .null, .null]) rfl rfl rfl cl_set_eq (by omega) ht (Nat.le_of_ble_eq_true rfl) rfl (Or.inr ⟨pm_N2_ini, rfl, rfl⟩) rfl rfl ?_
  refine pm_R_lo pm_M2 (pc' := 24) rfl rfl rfl ?_
  refine pm_R_op pm_M2 (pc' := 25) (st' := [.int (-1), .ref t]) rfl rfl rfl ?_
  refine pm_R_put pm_M2 (pc' := 28) (fs' := [.ref (t + 1), .int 0, .int 0, .int (-1), .null, .null, .null, .null, .null]) rfl rfl rfl cl_set_eq (by omega) ht (Nat.le_of_ble_eq_true rfl) rfl (Or.inr ⟨pm_N2_ini, rfl, rfl⟩) rfl rfl ?_
  exact K _ rfl rfl (fun b hb => by rw [cl_set_ne hb, cl_set_ne hb, cl_set_ne hb]) cl_set_eq
theorem cl_x2_1 {t : Nat} (e1c : h.2.2 1 = .inl (0, 4, .inl (fun j => pm_sv1.getD j 0))) (et : h.2.2 t = .inr (8, [.ref (t + 1), .int 0, .int 0, .int (-1), .null, .null, .null, .null, .null])) (h72 : 72 ≤ t) (ht : h.1 = t + 2) (K : ∀ h' : pm_H, h'.1 = t + 3 → h'.2.1 = h.2.1 + 2 → (∀ b, b ≠ t → b < t + 2 → h'.2.2 b = h.2.2 b) → h'.2.2 t = .inr (8, [.ref (t + 1), .int 0, .int 0, .int (-1), .ref (t + 2), .null, .null, .null, .null]) → h'.2.2 (t + 2) = .inl (4, 2, .inr (.inr (.inr (.inr (fun _ => none))))) → pm_R (d + 0) 2 40 [.ref t] [] h' Q) : pm_R (d + 0) 2 28 [.ref t] [] h Q := by
  refine pm_R_lo pm_M2 (pc' := 29) rfl rfl rfl ?_
  refine pm_R_stat pm_M2 (pc' := 32) rfl rfl rfl ?_
  refine pm_R_op pm_M2 (pc' := 33) (st' := [.int 0, .ref 1, .ref t]) rfl rfl rfl ?_
  refine pm_R_iald pm_M2 (pc' := 34) (v := 2) rfl e1c (by omega) rfl rfl rfl ?_
  refine pm_R_newq pm_M2 (pc' := 37) (N := 2) rfl rfl rfl (by decide) rfl (Nat.le_of_ble_eq_true rfl) rfl ?_
  obtain ⟨h1, e1⟩ : ∃ z, pm_push h (.inl (4, pm_newty 4 2)) 2 = z := ⟨_, rfl⟩
  have a1 : h1.1 = h.1 + 1 := by rw [← e1]; rfl
  have s1 : h1.2.1 = h.2.1 + 2 := by rw [← e1]; exact cl_push_s
  have o1 : ∀ b, b < h.1 → h1.2.2 b = h.2.2 b := fun b hb => by rw [← e1]; exact cl_push_lt hb
  have n1 : h1.2.2 h.1 = .inl (4, 2, .inr (.inr (.inr (.inr (fun _ => none))))) := by rw [← e1]; exact cl_push_eq
  rw [ht] at n1
  show pm_R _ 2 _ [.ref t] [.ref h.1, .ref t] (pm_push h (.inl (4, pm_newty 4 2)) 2) _
  rw [e1, ht]
  refine pm_R_put pm_M2 (pc' := 40) (fs' := [.ref (t + 1), .int 0, .int 0, .int (-1), .ref (t + 2), .null, .null, .null, .null]) rfl rfl rfl ((o1 t (by omega)).trans et) (by omega) (by omega) (Nat.le_of_ble_eq_true rfl) rfl (Or.inr ⟨pm_N2_ini, rfl, rfl⟩) rfl rfl ?_
  exact K _ (by show h1.1 = _; omega) s1 (fun b hb hlt => by rw [cl_set_ne hb]; exact o1 b (by omega)) cl_set_eq (by rw [cl_set_ne (by omega)]; exact n1)
theorem cl_x2_2 {t : Nat} (e1c : h.2.2 1 = .inl (0, 4, .inl (fun j => pm_sv1.getD j 0))) (et : h.2.2 t = .inr (8, [.ref (t + 1), .int 0, .int 0, .int (-1), .ref (t + 2), .null, .null, .null, .null])) (h72 : 72 ≤ t) (ht : h.1 = t + 3) (K : ∀ h' : pm_H, h'.1 = t + 4 → h'.2.1 = h.2.1 + 3 → (∀ b, b ≠ t → b < t + 3 → h'.2.2 b = h.2.2 b) → h'.2.2 t = .inr (8, [.ref (t + 1), .int 0, .int 0, .int (-1), .ref (t + 2), .ref (t + 3), .null, .null, .null]) → h'.2.2 (t + 3) = .inl (5, 3, .inr (.inr (.inr (.inr (fun _ => none))))) → pm_R (d + 0) 2 52 [.ref t] [] h' Q) : pm_R (d + 0) 2 40 [.ref t] [] h Q := by
  refine pm_R_lo pm_M2 (pc' := 41) rfl rfl rfl ?_
  refine pm_R_stat pm_M2 (pc' := 44) rfl rfl rfl ?_
  refine pm_R_op pm_M2 (pc' := 45) (st' := [.int 1, .ref 1, .ref t]) rfl rfl rfl ?_
  refine pm_R_iald pm_M2 (pc' := 46) (v := 3) rfl e1c (by omega) rfl rfl rfl ?_
  refine pm_R_newq pm_M2 (pc' := 49) (N := 3) rfl rfl rfl (by decide) rfl (Nat.le_of_ble_eq_true rfl) rfl ?_
  obtain ⟨h1, e1⟩ : ∃ z, pm_push h (.inl (5, pm_newty 5 3)) 3 = z := ⟨_, rfl⟩
  have a1 : h1.1 = h.1 + 1 := by rw [← e1]; rfl
  have s1 : h1.2.1 = h.2.1 + 3 := by rw [← e1]; exact cl_push_s
  have o1 : ∀ b, b < h.1 → h1.2.2 b = h.2.2 b := fun b hb => by rw [← e1]; exact cl_push_lt hb
  have n1 : h1.2.2 h.1 = .inl (5, 3, .inr (.inr (.inr (.inr (fun _ => none))))) := by rw [← e1]; exact cl_push_eq
  rw [ht] at n1
  show pm_R _ 2 _ [.ref t] [.ref h.1, .ref t] (pm_push h (.inl (5, pm_newty 5 3)) 3) _
  rw [e1, ht]
  refine pm_R_put pm_M2 (pc' := 52) (fs' := [.ref (t + 1), .int 0, .int 0, .int (-1), .ref (t + 2), .ref (t + 3), .null, .null, .null]) rfl rfl rfl ((o1 t (by omega)).trans et) (by omega) (by omega) (Nat.le_of_ble_eq_true rfl) rfl (Or.inr ⟨pm_N2_ini, rfl, rfl⟩) rfl rfl ?_
  exact K _ (by show h1.1 = _; omega) s1 (fun b hb hlt => by rw [cl_set_ne hb]; exact o1 b (by omega)) cl_set_eq (by rw [cl_set_ne (by omega)]; exact n1)
theorem cl_x2_3 {t : Nat} (e1c : h.2.2 1 = .inl (0, 4, .inl (fun j => pm_sv1.getD j 0))) (et : h.2.2 t = .inr (8, [.ref (t + 1), .int 0, .int 0, .int (-1), .ref (t + 2), .ref (t + 3), .null, .null, .null])) (h72 : 72 ≤ t) (ht : h.1 = t + 4) (K : ∀ h' : pm_H, h'.1 = t + 5 → h'.2.1 = h.2.1 + 2 → (∀ b, b ≠ t → b < t + 4 → h'.2.2 b = h.2.2 b) → h'.2.2 t = .inr (8, [.ref (t + 1), .int 0, .int 0, .int (-1), .ref (t + 2), .ref (t + 3), .ref (t + 4), .null, .null]) → h'.2.2 (t + 4) = .inl (6, 2, .inr (.inr (.inr (.inr (fun _ => none))))) → pm_R (d + 0) 2 64 [.ref t] [] h' Q) : pm_R (d + 0) 2 52 [.ref t] [] h Q := by
  refine pm_R_lo pm_M2 (pc' := 53) rfl rfl rfl ?_
  refine pm_R_stat pm_M2 (pc' := 56) rfl rfl rfl ?_
  refine pm_R_op pm_M2 (pc' := 57) (st' := [.int 2, .ref 1, .ref t]) rfl rfl rfl ?_
  refine pm_R_iald pm_M2 (pc' := 58) (v := 2) rfl e1c (by omega) rfl rfl rfl ?_
  refine pm_R_newq pm_M2 (pc' := 61) (N := 2) rfl rfl rfl (by decide) rfl (Nat.le_of_ble_eq_true rfl) rfl ?_
  obtain ⟨h1, e1⟩ : ∃ z, pm_push h (.inl (6, pm_newty 6 2)) 2 = z := ⟨_, rfl⟩
  have a1 : h1.1 = h.1 + 1 := by rw [← e1]; rfl
  have s1 : h1.2.1 = h.2.1 + 2 := by rw [← e1]; exact cl_push_s
  have o1 : ∀ b, b < h.1 → h1.2.2 b = h.2.2 b := fun b hb => by rw [← e1]; exact cl_push_lt hb
  have n1 : h1.2.2 h.1 = .inl (6, 2, .inr (.inr (.inr (.inr (fun _ => none))))) := by rw [← e1]; exact cl_push_eq
  rw [ht] at n1
  show pm_R _ 2 _ [.ref t] [.ref h.1, .ref t] (pm_push h (.inl (6, pm_newty 6 2)) 2) _
  rw [e1, ht]
  refine pm_R_put pm_M2 (pc' := 64) (fs' := [.ref (t + 1), .int 0, .int 0, .int (-1), .ref (t + 2), .ref (t + 3), .ref (t + 4), .null, .null]) rfl rfl rfl ((o1 t (by omega)).trans et) (by omega) (by omega) (Nat.le_of_ble_eq_true rfl) rfl (Or.inr ⟨pm_N2_ini, rfl, rfl⟩) rfl rfl ?_
  exact K _ (by show h1.1 = _; omega) s1 (fun b hb hlt => by rw [cl_set_ne hb]; exact o1 b (by omega)) cl_set_eq (by rw [cl_set_ne (by omega)]; exact n1)
theorem cl_x2_4 {t : Nat} (e1c : h.2.2 1 = .inl (0, 4, .inl (fun j => pm_sv1.getD j 0))) (et : h.2.2 t = .inr (8, [.ref (t + 1), .int 0, .int 0, .int (-1), .ref (t + 2), .ref (t + 3), .ref (t + 4), .null, .null])) (h72 : 72 ≤ t) (ht : h.1 = t + 5) (K : ∀ h' : pm_H, h'.1 = t + 6 → h'.2.1 = h.2.1 + 2 → (∀ b, b ≠ t → b < t + 5 → h'.2.2 b = h.2.2 b) → h'.2.2 t = .inr (8, [.ref (t + 1), .int 0, .int 0, .int (-1), .ref (t + 2), .ref (t + 3), .ref (t + 4), .ref (t + 5), .null]) → h'.2.2 (t + 5) = .inl (7, 2, .inr (.inr (.inr (.inr (fun _ => none))))) → pm_R (d + 0) 2 76 [.ref t] [] h' Q) : pm_R (d + 0) 2 64 [.ref t] [] h Q := by
  refine pm_R_lo pm_M2 (pc' := 65) rfl rfl rfl ?_
  refine pm_R_stat pm_M2 (pc' := 68) rfl rfl rfl ?_
  refine pm_R_op pm_M2 (pc' := 69) (st' := [.int 3, .ref 1, .ref t]) rfl rfl rfl ?_
  refine pm_R_iald pm_M2 (pc' := 70) (v := 2) rfl e1c (by omega) rfl rfl rfl ?_
  refine pm_R_newq pm_M2 (pc' := 73) (N := 2) rfl rfl rfl (by decide) rfl (Nat.le_of_ble_eq_true rfl) rfl ?_
  obtain ⟨h1, e1⟩ : ∃ z, pm_push h (.inl (7, pm_newty 7 2)) 2 = z := ⟨_, rfl⟩
  have a1 : h1.1 = h.1 + 1 := by rw [← e1]; rfl
  have s1 : h1.2.1 = h.2.1 + 2 := by rw [← e1]; exact cl_push_s
  have o1 : ∀ b, b < h.1 → h1.2.2 b = h.2.2 b := fun b hb => by rw [← e1]; exact cl_push_lt hb
  have n1 : h1.2.2 h.1 = .inl (7, 2, .inr (.inr (.inr (.inr (fun _ => none))))) := by rw [← e1]; exact cl_push_eq
  rw [ht] at n1
  show pm_R _ 2 _ [.ref t] [.ref h.1, .ref t] (pm_push h (.inl (7, pm_newty 7 2)) 2) _
  rw [e1, ht]
  refine pm_R_put pm_M2 (pc' := 76) (fs' := [.ref (t + 1), .int 0, .int 0, .int (-1), .ref (t + 2), .ref (t + 3), .ref (t + 4), .ref (t + 5), .null]) rfl rfl rfl ((o1 t (by omega)).trans et) (by omega) (by omega) (Nat.le_of_ble_eq_true rfl) rfl (Or.inr ⟨pm_N2_ini, rfl, rfl⟩) rfl rfl ?_
  exact K _ (by show h1.1 = _; omega) s1 (fun b hb hlt => by rw [cl_set_ne hb]; exact o1 b (by omega)) cl_set_eq (by rw [cl_set_ne (by omega)]; exact n1)
theorem cl_x2_5 {t : Nat} (e1c : h.2.2 1 = .inl (0, 4, .inl (fun j => pm_sv1.getD j 0))) (et : h.2.2 t = .inr (8, [.ref (t + 1), .int 0, .int 0, .int (-1), .ref (t + 2), .ref (t + 3), .ref (t + 4), .ref (t + 5), .null])) (h72 : 72 ≤ t) (ht : h.1 = t + 6) (K : ∀ h' : pm_H, h'.1 = t + 7 → h'.2.1 = h.2.1 + 4 → (∀ b, b ≠ t → b < t + 6 → h'.2.2 b = h.2.2 b) → h'.2.2 t = .inr (8, [.ref (t + 1), .int 0, .int 0, .int (-1), .ref (t + 2), .ref (t + 3), .ref (t + 4), .ref (t + 5), .ref (t + 6)]) → h'.2.2 (t + 6) = .inl (0, 4, .inl (fun _ => (0 : Int32))) → pm_R (d + 0) 2 83 [.ref t] [] h' Q) : pm_R (d + 0) 2 76 [.ref t] [] h Q := by
  refine pm_R_lo pm_M2 (pc' := 77) rfl rfl rfl ?_
  refine pm_R_op pm_M2 (pc' := 78) (st' := [.int 4, .ref t]) rfl rfl rfl ?_
  refine pm_R_newa pm_M2 (pc' := 80) (N := 4) rfl rfl (by decide) rfl (Nat.le_of_ble_eq_true rfl) rfl ?_
  obtain ⟨h1, e1⟩ : ∃ z, pm_push h (.inl (0, pm_newty 0 4)) 4 = z := ⟨_, rfl⟩
  have a1 : h1.1 = h.1 + 1 := by rw [← e1]; rfl
  have s1 : h1.2.1 = h.2.1 + 4 := by rw [← e1]; exact cl_push_s
  have o1 : ∀ b, b < h.1 → h1.2.2 b = h.2.2 b := fun b hb => by rw [← e1]; exact cl_push_lt hb
  have n1 : h1.2.2 h.1 = .inl (0, 4, .inl (fun _ => (0 : Int32))) := by rw [← e1]; exact cl_push_eq
  rw [ht] at n1
  show pm_R _ 2 _ [.ref t] [.ref h.1, .ref t] (pm_push h (.inl (0, pm_newty 0 4)) 4) _
  rw [e1, ht]
  refine pm_R_put pm_M2 (pc' := 83) (fs' := [.ref (t + 1), .int 0, .int 0, .int (-1), .ref (t + 2), .ref (t + 3), .ref (t + 4), .ref (t + 5), .ref (t + 6)]) rfl rfl rfl ((o1 t (by omega)).trans et) (by omega) (by omega) (Nat.le_of_ble_eq_true rfl) rfl (Or.inr ⟨pm_N2_ini, rfl, rfl⟩) rfl rfl ?_
  exact K _ (by show h1.1 = _; omega) s1 (fun b hb hlt => by rw [cl_set_ne hb]; exact o1 b (by omega)) cl_set_eq (by rw [cl_set_ne (by omega)]; exact n1)
theorem cl_x2 {t : Nat} (e1c : h.2.2 1 = .inl (0, 4, .inl (fun j => pm_sv1.getD j 0))) (et : h.2.2 t = .inr (8, [.null, .int 0, .int 0, .int 0, .null, .null, .null, .null, .null])) (h72 : 72 ≤ t) (ht : h.1 = t + 1) (K : ∀ h' : pm_H, h'.1 = t + 7 → h'.2.1 = h.2.1 + 600 + 2 + 3 + 2 + 2 + 4 → (∀ b, b < t → h'.2.2 b = h.2.2 b) → h'.2.2 t = .inr (8, [.ref (t + 1), .int 0, .int 0, .int (-1), .ref (t + 2), .ref (t + 3), .ref (t + 4), .ref (t + 5), .ref (t + 6)]) → h'.2.2 (t + 1) = .inl (2, 600, .inl (fun _ => (0 : Int32))) → h'.2.2 (t + 2) = .inl (4, 2, .inr (.inr (.inr (.inr (fun _ => none))))) → h'.2.2 (t + 3) = .inl (5, 3, .inr (.inr (.inr (.inr (fun _ => none))))) → h'.2.2 (t + 4) = .inl (6, 2, .inr (.inr (.inr (.inr (fun _ => none))))) → h'.2.2 (t + 5) = .inl (7, 2, .inr (.inr (.inr (.inr (fun _ => none))))) → h'.2.2 (t + 6) = .inl (0, 4, .inl (fun _ => (0 : Int32))) → Q none h') : pm_R (d + 0) 2 0 [.ref t] [] h Q := by
  refine cl_x2_0 e1c et h72 ht (fun h0 a0 s0 o0 t0 c1 => ?_)
  refine cl_x2_n t0 h72 (by omega) (fun h1 a1 s1 o1 t1 => ?_)
  have c1' := (o1 (t + 1) (by omega)).trans c1
  have q1 := ((o1 1 (by omega)).trans (o0 1 (by omega) (by omega))).trans e1c
  refine cl_x2_1 q1 t1 h72 (by omega) (fun h2 a2 s2 o2 t2 c2 => ?_)
  have q2 := (o2 1 (by omega) (by omega)).trans q1
  refine cl_x2_2 q2 t2 h72 (by omega) (fun h3 a3 s3 o3 t3 c3 => ?_)
  have q3 := (o3 1 (by omega) (by omega)).trans q2
  refine cl_x2_3 q3 t3 h72 (by omega) (fun h4 a4 s4 o4 t4 c4 => ?_)
  have q4 := (o4 1 (by omega) (by omega)).trans q3
  refine cl_x2_4 q4 t4 h72 (by omega) (fun h5 a5 s5 o5 t5 c5 => ?_)
  have q5 := (o5 1 (by omega) (by omega)).trans q4
  refine cl_x2_5 q5 t5 h72 (by omega) (fun h6 a6 s6 o6 t6 c6 => ?_)
  refine pm_R_ret pm_M2 (r := none) rfl rfl (K h6 a6 (by rw [s6, s5, s4, s3, s2, s1, s0]) (fun b hb => ?_) t6 ?_ ?_ ?_ ?_ ?_ c6)
  · rw [o6 b (by omega) (by omega), o5 b (by omega) (by omega), o4 b (by omega) (by omega), o3 b (by omega) (by omega), o2 b (by omega) (by omega), o1 b (by omega), o0 b (by omega) (by omega)]
  · rw [o6 (t + 1) (by omega) (by omega), o5 (t + 1) (by omega) (by omega), o4 (t + 1) (by omega) (by omega), o3 (t + 1) (by omega) (by omega), o2 (t + 1) (by omega) (by omega)]; exact c1'
  · rw [o6 (t + 2) (by omega) (by omega), o5 (t + 2) (by omega) (by omega), o4 (t + 2) (by omega) (by omega), o3 (t + 2) (by omega) (by omega)]; exact c2
  · rw [o6 (t + 3) (by omega) (by omega), o5 (t + 3) (by omega) (by omega), o4 (t + 3) (by omega) (by omega)]; exact c3
  · rw [o6 (t + 4) (by omega) (by omega), o5 (t + 4) (by omega) (by omega)]; exact c4
  · rw [o6 (t + 5) (by omega) (by omega)]; exact c5
end
