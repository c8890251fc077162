/-! charts that are made when first asked for: the chart of ways -/
theorem cl_G.w23 {ck : cl_K} {E : Nat → pm_E} (G : cl_G ck E) {b : Nat} (hk : ck b = 22) : ck (b + 1) = 23 := G.2.2.2.2.2.2.1 b hk
/-- a cell of a chart is written, and what it holds is of its kind -/
theorem cl_T.mut {ck : cl_K} {E : Nat → pm_E} {m : Nat → Int32} {o : Nat → Option Nat} {h : pm_H} (G : cl_G ck E) (T : cl_T ck E m o h) {a k : Nat} {x : pm_E} (hk : ck a = k) (h15 : 15 ≤ k) (hD : cl_D ck (pm_set h a x)) : cl_T ck E m o (pm_set h a x) := by
  have ha : 72 ≤ a := G.1 a (by omega)
  refine ⟨T.1, by rw [cl_set_ne (by omega)]; exact T.e16, by rw [cl_set_ne (by omega)]; exact T.e17, by rw [cl_set_ne (by omega)]; exact T.e25, by rw [cl_set_ne (by omega)]; exact T.e30, by rw [cl_set_ne (by omega)]; exact T.e31, by rw [cl_set_ne (by omega)]; exact T.e33, T.B, fun b b1 b2 => by rw [cl_set_ne (by omega)]; exact T.C b b1 b2, ?_, T.2.2.2.2.2.2.2.2.2.2.1, fun b b1 b2 => ?_, hD, T.oo, fun b hb => by rw [cl_set_ne (by omega)]; exact T.old hb⟩
  · rw [cl_set_ne (by omega), cl_set_ne (by omega), cl_set_ne (by omega), cl_set_ne (by omega), cl_set_ne (by omega)]; exact T.N
  · have : b ≠ a := fun e => by subst e; omega
    rw [cl_set_ne this]; exact T.im rfl b1 b2 rfl
/-- all of cl_D but what lies in a chart's own cell -/
theorem cl_D.keep {ck : cl_K} {E : Nat → pm_E} {h : pm_H} (G : cl_G ck E) (D : cl_D ck h) {a k : Nat} {x : pm_E} (hk : ck a = k) (h22 : 22 ≤ k) (n22 : k = 22 → ∃ l r : Option Nat, x = .inr (10, [.ref (a + 1), va_rf l, va_rf r]) ∧ (∀ b, l = some b → ck b = 1) ∧ (∀ b, r = some b → ck b = 7)) (n23 : k = 23 → ∃ f, x = .inl (1, 23400, .inr (.inl f))) (n24 : k = 24 → ∃ (l : Option Nat) (fi av ah an : Int32), sf_B 0 4 fi ∧ sf_B (-1) 11109 an ∧ x = .inr (3, [.ref (a + 1), .ref (a + 2), .ref (a + 3), .ref (a + 4), va_rf l, .int fi, .int av, .int ah, .int an]) ∧ ∀ b, l = some b → ck b = 1) (n25 : k = 25 → ∃ f, x = .inl (0, 15, .inl f)) (n26 : k = 26 → ∃ f, x = .inl (1, 6666, .inr (.inl f))) (n27 : k = 27 → ∃ f, x = .inl (0, 6666, .inl f)) (n28 : k = 28 → ∃ f, x = .inl (2, 11110, .inl f)) : cl_D ck (pm_set h a x) := by
  have g : ∀ b, b ≠ a → (pm_set h a x).2.2 b = h.2.2 b := fun b hb => cl_set_ne hb
  have ga : (pm_set h a x).2.2 a = x := cl_set_eq
  obtain ⟨d1, d2, d3, d4, d5, d6, d7, d8⟩ := D
  refine ⟨fun b hb => ?_, fun b hb => ?_, fun b hb => ?_, fun b hb => ?_, fun b hb => ?_, fun b hb => ?_, fun b hb => ?_, fun b hb => ?_⟩
  · obtain ⟨q1, q2, q3, q4, q5, q6⟩ := G.2.2.2.2.2.1 b hb
    have hx := d1 b hb
    have r : ∀ c, ck c < 22 → (pm_set h a x).2.2 c = h.2.2 c := fun c hc => g c (fun e => by subst e; omega)
    rw [← r b (by omega), ← r (b + 1) (by omega), ← r (b + 2) (by omega), ← r (b + 3) (by omega), ← r (b + 4) (by omega), ← r (b + 5) (by omega), ← r (b + 6) (by omega)] at hx
    exact hx
  · by_cases e : b = a
    · subst e; rw [ga]; exact n22 (by omega)
    · rw [g b e]; exact d2 b hb
  · by_cases e : b = a
    · subst e; rw [ga]; exact n23 (by omega)
    · rw [g b e]; exact d3 b hb
  · by_cases e : b = a
    · subst e; rw [ga]; exact n24 (by omega)
    · rw [g b e]; exact d4 b hb
  · by_cases e : b = a
    · subst e; rw [ga]; exact n25 (by omega)
    · rw [g b e]; exact d5 b hb
  · by_cases e : b = a
    · subst e; rw [ga]; exact n26 (by omega)
    · rw [g b e]; exact d6 b hb
  · by_cases e : b = a
    · subst e; rw [ga]; exact n27 (by omega)
    · rw [g b e]; exact d7 b hb
  · by_cases e : b = a
    · subst e; rw [ga]; exact n28 (by omega)
    · rw [g b e]; exact d8 b hb
theorem rf_G.mut {ck : cl_K} {a k : Nat} {h h' : pm_H} (x : rf_G [a] h h') (h72 : 72 ≤ h.1) (hk : ck a = k) (h15 : 22 ≤ k) : cl_F ck [] 0 0 h h' := ⟨h72, by rw [x.1]; exact Nat.le_refl _, by rw [x.1]; exact Nat.le_refl _, by rw [x.2.1]; exact Nat.le_refl _, fun b _ _ hb => x.2.2 b (fun z => by have := List.mem_singleton.mp z; subst this; omega)⟩
section CLW
variable {d mid pc pc' : Nat} {ls st : List Value} {h : pm_H} {Q : Option Value → pm_H → Prop} {q : pm_M} {l' : List (Nat × Instr × Nat)} {L : Nat} {ck : cl_K} {E : Nat → pm_E} {m : Nat → Int32} {o : Nat → Option Nat}
theorem cl_R_wst (G : cl_G ck E) (hM : pm_Mt mid q l') (T : cl_T ck E m o h) {b : Nat} {f : Nat → Int64} {j : Int32} {x : Int64} (hf : pm_find l' pc = some (.lastore, L)) (hk : ck b = 22) (hc : h.2.2 (b + 1) = .inl (1, 23400, .inr (.inl f))) (hj : pm_in j 23400 = true) (hp : pc + 1 = pc') (kk : ∀ h', cl_T ck E m o h' → cl_F ck [] 0 0 h h' → h'.2.2 b = h.2.2 b → pm_R d mid pc' ls st h' Q) : pm_R d mid pc ls (.long x :: .int j :: .ref (b + 1) :: st) h Q := by
  have k23 := G.w23 hk
  refine pm_R_last hM hf hc (G.ge k23 (by decide)) (T.al k23 (by decide)) hj hp (kk _ (T.mut G k23 (by decide) (T.D.keep G k23 (by decide) (fun z => absurd z (by decide)) (fun _ => ⟨_, rfl⟩) (fun z => absurd z (by decide)) (fun z => absurd z (by decide)) (fun z => absurd z (by decide)) (fun z => absurd z (by decide)) (fun z => absurd z (by decide)))) ((rf_G.one _ _ _).mut T.1 k23 (by decide)) (cl_set_ne (by omega)))
theorem cl_R_wput1 (G : cl_G ck E) (hM : pm_Mt mid q l') (T : cl_T ck E m o h) {ix b a : Nat} {nb : Bool} {qq : vw_C} {l r l0 : Option Nat} (hf : pm_find l' pc = some (.putfield ix, L)) (hF : pm_at pm_FL q.2.2.2.2 ix = some (10, 1, nb)) (hq : pm_cl[10]? = some qq) (h3 : 1 < 3) (hv : pm_fits (pm_ty qq.2.1 1) (.ref a) = true) (hfin : (qq.2.1 1).2.2.2 = false) (hk : ck b = 22) (hc : h.2.2 b = .inr (10, [.ref (b + 1), va_rf l0, va_rf r])) (kl : ∀ z, l = some z → ck z = 1) (kr : ∀ z, r = some z → ck z = 7) (hl : va_rf l = .ref a) (hp : pc + 3 = pc') (kk : ∀ h', cl_T ck E m o h' → cl_F ck [] 0 0 h h' → h'.2.2 b = .inr (10, [.ref (b + 1), va_rf l, va_rf r]) → pm_R d mid pc' ls st h' Q) : pm_R d mid pc ls (.ref a :: .ref b :: st) h Q :=
  pm_R_put hM hf hF hq hc (G.ge hk (by decide)) (T.al hk (by decide)) h3 hv (Or.inl hfin) (fs' := [.ref (b + 1), va_rf l, va_rf r]) (by rw [hl]; rfl) hp (kk _ (T.mut G hk (by decide) (T.D.keep G hk (by decide) (fun _ => ⟨l, r, rfl, kl, kr⟩) (fun z => absurd z (by decide)) (fun z => absurd z (by decide)) (fun z => absurd z (by decide)) (fun z => absurd z (by decide)) (fun z => absurd z (by decide)) (fun z => absurd z (by decide)))) ((rf_G.one _ _ _).mut T.1 hk (by decide)) cl_set_eq)
theorem cl_R_wput2 (G : cl_G ck E) (hM : pm_Mt mid q l') (T : cl_T ck E m o h) {ix b a : Nat} {nb : Bool} {qq : vw_C} {l r r0 : Option Nat} (hf : pm_find l' pc = some (.putfield ix, L)) (hF : pm_at pm_FL q.2.2.2.2 ix = some (10, 2, nb)) (hq : pm_cl[10]? = some qq) (h3 : 2 < 3) (hv : pm_fits (pm_ty qq.2.1 2) (.ref a) = true) (hfin : (qq.2.1 2).2.2.2 = false) (hk : ck b = 22) (hc : h.2.2 b = .inr (10, [.ref (b + 1), va_rf l, va_rf r0])) (kl : ∀ z, l = some z → ck z = 1) (kr : ∀ z, r = some z → ck z = 7) (hr : va_rf r = .ref a) (hp : pc + 3 = pc') (kk : ∀ h', cl_T ck E m o h' → cl_F ck [] 0 0 h h' → h'.2.2 b = .inr (10, [.ref (b + 1), va_rf l, va_rf r]) → pm_R d mid pc' ls st h' Q) : pm_R d mid pc ls (.ref a :: .ref b :: st) h Q :=
  pm_R_put hM hf hF hq hc (G.ge hk (by decide)) (T.al hk (by decide)) h3 hv (Or.inl hfin) (fs' := [.ref (b + 1), va_rf l, va_rf r]) (by rw [hr]; rfl) hp (kk _ (T.mut G hk (by decide) (T.D.keep G hk (by decide) (fun _ => ⟨l, r, rfl, kl, kr⟩) (fun z => absurd z (by decide)) (fun z => absurd z (by decide)) (fun z => absurd z (by decide)) (fun z => absurd z (by decide)) (fun z => absurd z (by decide)) (fun z => absurd z (by decide)))) ((rf_G.one _ _ _).mut T.1 hk (by decide)) cl_set_eq)
end CLW
