theorem pm_set_get (h : pm_H) (a : Nat) (c : pm_E) : (pm_set h a c).2.2 a = c := by simp [pm_set, va_up]
theorem pm_set_ne {h : pm_H} {a b : Nat} {c : pm_E} (hb : b ≠ a) : (pm_set h a c).2.2 b = h.2.2 b := by simp [pm_set, va_up, hb]
theorem pm_set_set (h : pm_H) (a : Nat) (c c' : pm_E) : pm_set (pm_set h a c) a c' = pm_set h a c' := by
  show (h.1, h.2.1, va_up (va_up h.2.2 a c) a c') = (h.1, h.2.1, va_up h.2.2 a c')
  rw [bx_uu]
theorem pm_set_self {h : pm_H} {a : Nat} {c : pm_E} (hc : h.2.2 a = c) : pm_set h a c = h := by
  have e : va_up h.2.2 a c = h.2.2 := by
    funext j
    by_cases hj : j = a
    · subst hj; simp [va_up, hc]
    · simp [va_up, hj]
  show (h.1, h.2.1, va_up h.2.2 a c) = h
  rw [e]
theorem pm_in_nI {k n : Nat} (h : k < n) (hn : n < 2 ^ 31) : pm_in (nI k) n = true := by
  simp only [pm_in, Bool.and_eq_true, decide_eq_true_eq]
  exact ⟨nI_pos' (by omega), by rw [nI_clamp (by omega)]; exact h⟩
theorem pm_in_of {j : Int32} {k n : Nat} (e : j = nI k) (h : k < n) (hn : n < 2 ^ 31) : pm_in j n = true := by rw [e]; exact pm_in_nI h hn
theorem pm_R_heq {d mid pc : Nat} {ls st : List Value} {h h' : pm_H} {Q : Option Value → pm_H → Prop} (e : h = h') (k : pm_R d mid pc ls st h' Q) : pm_R d mid pc ls st h Q := by rw [e]; exact k
