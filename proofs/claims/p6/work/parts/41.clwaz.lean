/-! what is known of more cells than before -/
theorem cl_C.mono {ck ck' : cl_K} {a : Nat} {x : pm_E} (hck : ∀ b, ck b ≠ 0 → ck' b = ck b) (h : cl_C ck a x) : cl_C ck' a x := by
  have hO : ∀ (k : Nat) (f : Nat → Option Nat), k ≠ 0 → cl_O ck k f → cl_O ck' k f := fun k f hk hf i b hb => by
    have := hf i b hb
    rw [hck b (by rw [this]; exact hk)]; exact this
  unfold cl_C at h ⊢
  split at h <;> first | exact h | (obtain ⟨f, e, hf⟩ := h; exact ⟨f, e, hO _ f (by decide) hf⟩)
theorem cl_T.ext {ck ck' : cl_K} {E E' : Nat → pm_E} {m : Nat → Int32} {o : Nat → Option Nat} {h h' : pm_H} (T : cl_T ck E m o h) (hck : ∀ b, ck b ≠ 0 → ck' b = ck b) (hE0 : ∀ a, a < 16 → E' a = E a) (hh : ∀ a, a < h.1 → h'.2.2 a = h.2.2 a) (h1 : h.1 ≤ h'.1) (hlt : ∀ a, ck' a ≠ 0 → a < h'.1) (him : ∀ a, 1 ≤ ck' a → ck' a ≤ 14 → h'.2.2 a = E' a) (hD : cl_D ck' h') : cl_T ck' E' m o h' := by
  have h72 := T.1
  refine ⟨by omega, by rw [hh 16 (by omega)]; exact T.e16, by rw [hh 17 (by omega)]; exact T.e17, by rw [hh 25 (by omega)]; exact T.e25, by rw [hh 30 (by omega)]; exact T.e30, by rw [hh 31 (by omega)]; exact T.e31, by rw [hh 33 (by omega)]; exact T.e33, T.B, fun b b1 b2 => by rw [hh b (by omega)]; exact (T.C b b1 b2).mono hck, ?_, hlt, him, hD, ?_, fun a ha => by rw [hh a (by omega), hE0 a ha]; exact T.old ha⟩
  · rw [hh 19 (by omega), hh 20 (by omega), hh 21 (by omega), hh 22 (by omega), hh 23 (by omega)]; exact T.N
  · obtain ⟨o1, o2, o3⟩ := T.oo
    exact ⟨fun b hb => by rw [hck b (by rw [o1 b hb]; decide)]; exact o1 b hb, fun b hb => by rw [hck b (by rw [o2 b hb]; decide)]; exact o2 b hb, fun b hb => by rw [hck b (by rw [o3 b hb]; decide)]; exact o3 b hb⟩
theorem cl_F.ck {ck ck' : cl_K} {A : List Nat} {n s : Nat} {h h' : pm_H} {H : Nat} (F : cl_F ck' A n s h h') (hH : ∀ b, b < H → ck' b = ck b) (h0 : h.1 ≤ H) : cl_F ck A n s h h' := ⟨F.1, F.2.1, F.2.2.1, F.2.2.2.1, fun a h1 h2 h3 => F.2.2.2.2 a h1 h2 (by rw [hH a (by omega)]; exact h3)⟩
