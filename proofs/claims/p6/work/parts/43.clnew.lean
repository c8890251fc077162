/-! the chart of ways is made -/
theorem cl_x83 {d : Nat} {h : pm_H} {Q : Option Value → pm_H → Prop} {t : Nat} (ht : h.2.2 t = .inr (10, [.null, .null, .null])) (h16 : 16 ≤ t) (hlt : t < h.1) (K : ∀ h', h'.1 = h.1 + 1 → h'.2.1 = h.2.1 + 23400 → h'.2.2 t = .inr (10, [.ref h.1, .null, .null]) → h'.2.2 h.1 = .inl (1, 23400, .inr (.inl (fun _ => (0 : Int64)))) → (∀ b, b ≠ t → b ≠ h.1 → h'.2.2 b = h.2.2 b) → Q none h') : pm_R (d + 0) 83 0 [.ref t] [] h Q := by
  have hne : t ≠ h.1 := by omega
  have hne2 : h.1 ≠ t := by omega
  refine pm_R_lo pm_M83 (pc' := 1) rfl rfl rfl ?_
  refine pm_R_obj pm_M83 (pc' := 4) rfl rfl rfl (Nat.le_of_ble_eq_true rfl) rfl ?_
  refine pm_R_lo pm_M83 (pc' := 5) rfl rfl rfl ?_
  refine pm_R_op pm_M83 (pc' := 8) (st' := [.int 23400, .ref t]) rfl rfl rfl ?_
  refine pm_R_newa pm_M83 (pc' := 10) (N := 23400) rfl rfl (by decide) rfl (Nat.le_of_ble_eq_true rfl) rfl ?_
  have c1 : (pm_push h (.inl (1, pm_newty 1 23400)) 23400).2.2 t = .inr (10, [.null, .null, .null]) := by
    have : (pm_push h (.inl (1, pm_newty 1 23400)) 23400).2.2 t = h.2.2 t := by simp [pm_push, va_up, hne]
    rw [this]; exact ht
  refine pm_R_put pm_M83 (pc' := 13) (fs' := [.ref h.1, .null, .null]) rfl rfl rfl c1 h16 (Nat.lt_succ_of_lt hlt) (by decide) rfl (Or.inr ⟨pm_N83_ini, rfl, rfl⟩) rfl rfl ?_
  refine pm_R_lo pm_M83 (pc' := 14) rfl rfl rfl ?_
  refine pm_R_op pm_M83 (pc' := 15) (st' := [.null, .ref t]) rfl rfl rfl ?_
  refine pm_R_put pm_M83 (pc' := 18) (fs' := [.ref h.1, .null, .null]) rfl rfl rfl cl_set_eq h16 (Nat.lt_succ_of_lt hlt) (Nat.le_of_ble_eq_true rfl) rfl (Or.inl rfl) rfl rfl ?_
  refine pm_R_lo pm_M83 (pc' := 19) rfl rfl rfl ?_
  refine pm_R_op pm_M83 (pc' := 20) (st' := [.null, .ref t]) rfl rfl rfl ?_
  refine pm_R_put pm_M83 (pc' := 23) (fs' := [.ref h.1, .null, .null]) rfl rfl rfl cl_set_eq h16 (Nat.lt_succ_of_lt hlt) (Nat.le_of_ble_eq_true rfl) rfl (Or.inl rfl) rfl rfl ?_
  refine pm_R_ret pm_M83 (r := none) rfl rfl (K _ rfl rfl cl_set_eq ?_ (fun b b1 b2 => ?_))
  · simp [pm_set, pm_push, va_up, hne2, pm_newty]
  · simp [pm_set, pm_push, va_up, b1, b2]
