section
/-! ways from the look for its chart on: made new, or there -/
theorem cl_T.puto16 {ck : cl_K} {E : Nat → pm_E} {m : Nat → Int32} {o o' : Nat → Option Nat} {h : pm_H} (G : cl_G ck E) (T : cl_T ck E m o h) {fs : List Value} (q0 : fs = cl_f16 o') (h33 : cl_f33 m o' = cl_f33 m o) (hO : (∀ b, o' 0 = some b → ck b = 22) ∧ (∀ b, o' 1 = some b → ck b = 1) ∧ (∀ b, o' 2 = some b → ck b = 7)) : cl_T ck E m o' (pm_set h 16 (.inr (11, fs))) := by
  subst q0
  have nn : ∀ a, a ≠ 16 → (pm_set h 16 (.inr (11, cl_f16 o'))).2.2 a = h.2.2 a := fun a ha => by simp [pm_set, va_up, ha]
  have h1 : (pm_set h 16 (.inr (11, cl_f16 o'))).1 = h.1 := rfl
  obtain ⟨t1, t2, t3, t4, t5, t6, t7, t8, t9, t10, t11, t12, t13, t14, t15⟩ := T
  have ge : ∀ a, ck a ≠ 0 → a ≠ 16 := fun a ha e => by have := G.1 a ha; omega
  refine ⟨t1, by simp [pm_set, va_up], by rw [nn 17 (by decide)]; exact t3, by rw [nn 25 (by decide)]; exact t4, by rw [nn 30 (by decide)]; exact t5, by rw [nn 31 (by decide)]; exact t6, by rw [nn 33 (by decide), h33]; exact t7, t8, ?_, ?_, t11, ?_, ?_, hO, ?_⟩
  · intro a a1 a2
    by_cases e : a = 16
    · have := t9 a a1 a2
      subst e
      unfold cl_C at this ⊢
      exact this
    · rw [nn a e]; exact t9 a a1 a2
  · rw [nn 19 (by decide), nn 20 (by decide), nn 21 (by decide), nn 22 (by decide), nn 23 (by decide)]; exact t10
  · intro a a1 a2
    rw [nn a (ge a (by omega))]; exact t12 a a1 a2
  · exact cl_D.low G t13 (fun b hb => nn b (by omega))
  · intro a ha
    rw [nn a (by omega)]; exact t15 a ha
theorem cl_c81_m {d : Nat} {ck : cl_K} {E : Nat → pm_E} {m : Nat → Int32} {o : Nat → Option Nat} {h : pm_H} {Q : Option Value → pm_H → Prop} {a0 : Int32} {a1 : Int32} {a2 : Int32} (G : cl_G ck E) (T : cl_T ck E m o h) (Ba2 : sf_B 0 49 a2) {lo ro : Nat} (ol : o 1 = some lo) (orr : o 2 = some ro) (K : ∀ (r : Int64) (m' : Nat → Int32) (o' : Nat → Option Nat) (ck' : cl_K) (h' : pm_H), (∀ b, b < h.1 → ck' b = ck b) → cl_G ck' E → cl_T ck' E m' o' h' → o' 1 = o 1 → o' 2 = o 2 → (∀ b, o 0 = some b → o' 0 = some b ∧ h'.1 = h.1 ∧ h'.2.1 ≤ h.2.1) → (∃ b, o' 0 = some b) → cl_F ck [16] 2 23403 h h' → rf_W [] m m' → Q (some (.long r)) h') : pm_R (d + 4) 81 46 [.ref 16, .int a0, .int a1, .int a2, .ref lo, .ref ro] [] h Q := by
  refine pm_R_lo pm_M81 (pc' := 47) rfl rfl rfl ?_
  rcases ho : o 0 with _ | b
  · refine pm_R_get pm_M81 (pc' := 50) (v := .null) rfl rfl T.e16 (by decide) (T.lt (by decide)) (by show some (va_rf (o 0)) = _; rw [ho]; rfl) rfl ?_
    refine pm_R_br pm_M81 (pc' := 53) rfl rfl ?_
    refine pm_R_lo pm_M81 (pc' := 54) rfl rfl rfl ?_
    refine pm_R_new pm_M81 (pc' := 57) (fs := [.null, .null, .null]) rfl rfl rfl rfl rfl ?_
    refine pm_R_op pm_M81 (pc' := 58) (st' := [.ref h.1, .ref h.1, .ref 16]) rfl rfl rfl ?_
    refine pm_R_ci pm_M81 (pc' := 61) (a := h.1) (ra := []) (rest := [.ref h.1, .ref 16]) (ls' := [.ref h.1]) rfl rfl (Or.inr rfl) pm_M83 rfl rfl (Nat.le_of_ble_eq_true rfl) rfl rfl ?_
    sorry
  · refine pm_R_get pm_M81 (pc' := 50) (v := .ref b) rfl rfl T.e16 (by decide) (T.lt (by decide)) (by show some (va_rf (o 0)) = _; rw [ho]; rfl) rfl ?_
    refine pm_R_br pm_M81 (pc' := 64) rfl rfl ?_
    refine cl_c81_t (d := d) G T Ba2 ol orr ho (fun r m' h' T' F' W' => ?_)
    exact K r m' o ck h' (fun _ _ => rfl) G T' rfl rfl (fun c hc => ⟨hc, by have := F'.2.1; have := F'.2.2.1; omega, F'.2.2.2.1⟩) ⟨b, ho⟩ ((cl_F.refl (ck := ck) (A := [16]) (n := 0) (s := 0) T.1).trans F' (by decide) (by decide) (by decide)) W'
end
