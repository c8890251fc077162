section
/-! what the grown map's cells hold -/
theorem cl_kW_D {ck : cl_K} {h h' : pm_H} {t : Nat} (D : cl_D ck h) (hlt : ∀ a, ck a ≠ 0 → a < h.1) (hin : ∀ a, ck a = 15 → ck (a + 1) = 16 ∧ ck (a + 2) = 17 ∧ ck (a + 3) = 18 ∧ ck (a + 4) = 19 ∧ ck (a + 5) = 20 ∧ ck (a + 6) = 21) (h0 : ck t = 0) (h1 : ck (t + 1) = 0) (hh : ∀ a, a < h.1 → h'.2.2 a = h.2.2 a) (e0 : h'.2.2 t = .inr (10, [.ref (t + 1), .null, .null])) (e1 : h'.2.2 (t + 1) = .inl (1, 23400, .inr (.inl (fun _ => (0 : Int64))))) : cl_D (cl_kW ck t) h' := by
  have hck := cl_kW_old h0 h1
  have keep : ∀ a k, k ≠ 0 → ck a = k → h'.2.2 a = h.2.2 a := fun a k hk e => hh a (hlt a (by rw [e]; exact hk))
  have old := fun (b k : Nat) (hk : k ≠ 0) (hb : ck b = k) => (hck b (by rw [hb]; exact hk)).trans hb
  obtain ⟨d15, d22, d23, d24, d25, d26, d27, d28⟩ := D
  refine ⟨fun a ha => ?_, fun a ha => ?_, fun a ha => ?_, fun a ha => ?_, fun a ha => ?_, fun a ha => ?_, fun a ha => ?_, fun a ha => ?_⟩
  · have hz := cl_kW_back (by decide) (by decide) ha
    obtain ⟨i1, i2, i3, i4, i5, i6⟩ := hin a hz
    obtain ⟨s, t', u, b1, b2, b3, e, c1, c2, c3, c4, c5, c6, n⟩ := d15 a hz
    rw [← keep a _ (by decide) hz] at e
    rw [← keep _ _ (by decide) i1] at c1
    rw [← keep _ _ (by decide) i2] at c2
    rw [← keep _ _ (by decide) i3] at c3
    rw [← keep _ _ (by decide) i4] at c4
    rw [← keep _ _ (by decide) i5] at c5
    rw [← keep _ _ (by decide) i6] at c6
    rw [← keep _ _ (by decide) i2, ← keep _ _ (by decide) i3, ← keep _ _ (by decide) i4, ← keep _ _ (by decide) i5, ← keep _ _ (by decide) i6] at n
    exact ⟨s, t', u, b1, b2, b3, e, c1.mono hck, c2.mono hck, c3.mono hck, c4.mono hck, c5.mono hck, c6.mono hck, n⟩
  · by_cases e : a = t
    · subst e
      refine ⟨none, none, e0, ?_, ?_⟩
      · intro b hb; exact absurd hb (by simp)
      · intro b hb; exact absurd hb (by simp)
    · by_cases e' : a = t + 1
      · unfold cl_kW at ha; rw [if_neg e, if_pos e'] at ha; exact absurd ha (by decide)
      · have hz : ck a = 22 := by unfold cl_kW at ha; rw [if_neg e, if_neg e'] at ha; exact ha
        obtain ⟨l, r, x, y, z⟩ := d22 a hz
        exact ⟨l, r, by rw [keep a _ (by decide) hz]; exact x, fun b hb => old _ _ (by decide) (y b hb), fun b hb => old _ _ (by decide) (z b hb)⟩
  · by_cases e : a = t
    · unfold cl_kW at ha; rw [if_pos e] at ha; exact absurd ha (by decide)
    · by_cases e' : a = t + 1
      · rw [e']; exact ⟨_, e1⟩
      · have hz : ck a = 23 := by unfold cl_kW at ha; rw [if_neg e, if_neg e'] at ha; exact ha
        rw [keep a _ (by decide) hz]; exact d23 a hz
  · have hz := cl_kW_back (by decide) (by decide) ha
    obtain ⟨l, fi, av, ah, an, b1, b2, x, y⟩ := d24 a hz
    exact ⟨l, fi, av, ah, an, b1, b2, by rw [keep a _ (by decide) hz]; exact x, fun b hb => old _ _ (by decide) (y b hb)⟩
  · have hz := cl_kW_back (by decide) (by decide) ha
    rw [keep a _ (by decide) hz]; exact d25 a hz
  · have hz := cl_kW_back (by decide) (by decide) ha
    rw [keep a _ (by decide) hz]; exact d26 a hz
  · have hz := cl_kW_back (by decide) (by decide) ha
    rw [keep a _ (by decide) hz]; exact d27 a hz
  · have hz := cl_kW_back (by decide) (by decide) ha
    rw [keep a _ (by decide) hz]; exact d28 a hz
end
