section
/-! images: made, taken, given back -/
variable {d : Nat} {h : pm_H} {Q : Option Value → pm_H → Prop} {ck : cl_K} {E : Nat → pm_E} {m : Nat → Int32} {o : Nat → Option Nat}
theorem cl_O.upo {k j : Nat} {f : Nat → Option Nat} {x : Option Nat} (h : cl_O ck k f) (hx : ∀ b, x = some b → ck b = k) : cl_O ck k (va_up f j x) := fun i y hy => by
  by_cases e : i = j
  · rw [e, show va_up f j x j = x by simp [va_up]] at hy; exact hx y hy
  · rw [show va_up f j x i = f i by simp [va_up, e]] at hy; exact h i y hy
/-- what is counted is there, as functions -/
def cl_NF (f1 f2 f3 f4 : Nat → Option Nat) (c : Nat → Int32) : Prop := (∀ i : Nat, (i : Int) < (c 0).toInt → ∃ b, f1 i = some b) ∧ (∀ i : Nat, (i : Int) < (c 1).toInt → ∃ b, f2 i = some b) ∧ (∀ i : Nat, (i : Int) < (c 2).toInt → ∃ b, f3 i = some b) ∧ (∀ i : Nat, (i : Int) < (c 3).toInt → ∃ b, f4 i = some b)
theorem cl_N.fn {l r me ho co : pm_E} {f1 f2 f3 f4 : Nat → Option Nat} {c : Nat → Int32} (N : cl_N l r me ho co) (e1 : l = .inl (4, 2, .inr (.inr (.inr (.inr f1))))) (e2 : r = .inl (5, 3, .inr (.inr (.inr (.inr f2))))) (e3 : me = .inl (6, 2, .inr (.inr (.inr (.inr f3))))) (e4 : ho = .inl (7, 2, .inr (.inr (.inr (.inr f4))))) (e5 : co = .inl (0, 4, .inl c)) : cl_NF f1 f2 f3 f4 c := by
  obtain ⟨n1, n2, n3, n4⟩ := N c e5
  exact ⟨n1 _ e1, n2 _ e2, n3 _ e3, n4 _ e4⟩
theorem cl_NF.back {l r me ho co : pm_E} {f1 f2 f3 f4 : Nat → Option Nat} {c : Nat → Int32} (N : cl_NF f1 f2 f3 f4 c) (e1 : l = .inl (4, 2, .inr (.inr (.inr (.inr f1))))) (e2 : r = .inl (5, 3, .inr (.inr (.inr (.inr f2))))) (e3 : me = .inl (6, 2, .inr (.inr (.inr (.inr f3))))) (e4 : ho = .inl (7, 2, .inr (.inr (.inr (.inr f4))))) (e5 : co = .inl (0, 4, .inl c)) : cl_N l r me ho co := by
  intro c' hc
  rw [e5] at hc; cases hc
  refine ⟨fun f hf => ?_, fun f hf => ?_, fun f hf => ?_, fun f hf => ?_⟩
  · rw [e1] at hf; cases hf; exact N.1
  · rw [e2] at hf; cases hf; exact N.2.1
  · rw [e3] at hf; cases hf; exact N.2.2.1
  · rw [e4] at hf; cases hf; exact N.2.2.2
theorem cl_NF.cp {f1 f2 f3 f4 g1 g2 g3 g4 : Nat → Option Nat} {c c2 : Nat → Int32} (N : cl_NF g1 g2 g3 g4 c2) (hc : ∀ j, sf_B 0 (if j = 1 then 3 else 2) (c2 j)) : cl_NF (va_up (va_up f1 0 (g1 0)) 1 (g1 1)) (va_up (va_up (va_up f2 0 (g2 0)) 1 (g2 1)) 2 (g2 2)) (va_up (va_up f3 0 (g3 0)) 1 (g3 1)) (va_up (va_up f4 0 (g4 0)) 1 (g4 1)) (va_cpy c2 c 0 0 4) := by
  have b0 := (hc 0).2
  have b1 := (hc 1).2
  have b2 := (hc 2).2
  have b3 := (hc 3).2
  have k : ∀ j, j < 4 → va_cpy c2 c 0 0 4 j = c2 j := fun j hj => cl_cpI (by omega) hj
  have u2 : ∀ (f g : Nat → Option Nat) (i : Nat), i < 2 → va_up (va_up f 0 (g 0)) 1 (g 1) i = g i := fun f g i hi => by
    rcases (show i = 0 ∨ i = 1 by omega) with z | z <;> (subst z; simp [va_up])
  have u3 : ∀ (f g : Nat → Option Nat) (i : Nat), i < 3 → va_up (va_up (va_up f 0 (g 0)) 1 (g 1)) 2 (g 2) i = g i := fun f g i hi => by
    rcases (show i = 0 ∨ i = 1 ∨ i = 2 by omega) with z | z | z <;> (subst z; simp [va_up])
  simp at b0 b1 b2 b3
  refine ⟨fun i hi => ?_, fun i hi => ?_, fun i hi => ?_, fun i hi => ?_⟩
  · rw [k 0 (by decide)] at hi; rw [u2 _ _ _ (by omega)]; exact N.1 i hi
  · rw [k 1 (by decide)] at hi; rw [u3 _ _ _ (by omega)]; exact N.2.1 i hi
  · rw [k 2 (by decide)] at hi; rw [u2 _ _ _ (by omega)]; exact N.2.2.1 i hi
  · rw [k 3 (by decide)] at hi; rw [u2 _ _ _ (by omega)]; exact N.2.2.2 i hi
theorem cl_cpB {c c2 : Nat → Int32} (h : ∀ j, sf_B 0 (if j = 1 then 3 else 2) (c j)) (h2 : ∀ j, sf_B 0 (if j = 1 then 3 else 2) (c2 j)) : ∀ j, sf_B 0 (if j = 1 then 3 else 2) (va_cpy c2 c 0 0 4 j) := fun j => by
  rcases Nat.lt_or_ge j 4 with z | z
  · rw [cl_cpI (i := j) (by omega) z]; exact h2 j
  · rw [cl_cpO (by omega)]; exact h j
/-- a cell of a text is none of an image's -/
theorem cl_off {t x k : Nat} (G : cl_G ck E) (hk : ck t = 15) (hx : ck x = k) (h15 : k < 15 ∨ 21 < k) : x < t ∨ t + 6 < x := by
  obtain ⟨q1, q2, q3, q4, q5, q6⟩ := G.2.2.2.2.2.1 t hk
  rcases Nat.lt_or_ge x t with z | z
  · exact Or.inl z
  · rcases Nat.lt_or_ge (t + 6) x with y | y
    · exact Or.inr y
    · exfalso
      rcases (show x = t ∨ x = t + 1 ∨ x = t + 2 ∨ x = t + 3 ∨ x = t + 4 ∨ x = t + 5 ∨ x = t + 6 by omega) with w | w | w | w | w | w | w <;> (subst w; omega)
theorem cl_off15 {t x : Nat} (G : cl_G ck E) (hk : ck t = 15) (hx : ck x = 15) (hne : x ≠ t) (i : Nat) (hi : i ≤ 6) : x + i < t ∨ t + 6 < x + i := by
  obtain ⟨q1, q2, q3, q4, q5, q6⟩ := G.2.2.2.2.2.1 t hk
  obtain ⟨r1, r2, r3, r4, r5, r6⟩ := G.2.2.2.2.2.1 x hx
  have kt : ∀ j, j ≤ 6 → ck (t + j) = 15 + j := fun j hj => by
    rcases (show j = 0 ∨ j = 1 ∨ j = 2 ∨ j = 3 ∨ j = 4 ∨ j = 5 ∨ j = 6 by omega) with w | w | w | w | w | w | w <;> (subst w; assumption)
  have kx : ∀ j, j ≤ 6 → ck (x + j) = 15 + j := fun j hj => by
    rcases (show j = 0 ∨ j = 1 ∨ j = 2 ∨ j = 3 ∨ j = 4 ∨ j = 5 ∨ j = 6 by omega) with w | w | w | w | w | w | w <;> (subst w; assumption)
  rcases Nat.lt_or_ge (x + i) t with z | z
  · exact Or.inl z
  · rcases Nat.lt_or_ge (t + 6) (x + i) with y | y
    · exact Or.inr y
    · exfalso
      have a := kt (x + i - t) (by omega)
      rw [show t + (x + i - t) = x + i by omega] at a
      have b := kx i hi
      omega
/-- an image changes, and nothing else -/
theorem cl_T.img {t : Nat} {h' : pm_H} (G : cl_G ck E) (T : cl_T ck E m o h) (hk : ck t = 15) (h1 : h'.1 = h.1) (hF : ∀ x, (x < t ∨ t + 6 < x) → h'.2.2 x = h.2.2 x) (I : cl_I ck h' t) : cl_T ck E m o h' := by
  have ht := G.1 t (by rw [hk]; decide)
  have lo : ∀ x, x < 72 → h'.2.2 x = h.2.2 x := fun x hx => hF x (by omega)
  obtain ⟨t1, t2, t3, t4, t5, t6, t7, t8, t9, t10, t11, t12, t13, t14, t15⟩ := T
  refine ⟨by omega, by rw [lo 16 (by decide)]; exact t2, by rw [lo 17 (by decide)]; exact t3, by rw [lo 25 (by decide)]; exact t4, by rw [lo 30 (by decide)]; exact t5, by rw [lo 31 (by decide)]; exact t6, by rw [lo 33 (by decide)]; exact t7, t8, fun a a1 a2 => by rw [lo a (by omega)]; exact t9 a a1 a2, ?_, fun a ha => by rw [h1]; exact t11 a ha, fun a a1 a2 => ?_, ?_, t14, fun a ha => by rw [lo a (by omega)]; exact t15 a ha⟩
  · rw [lo 19 (by decide), lo 20 (by decide), lo 21 (by decide), lo 22 (by decide), lo 23 (by decide)]; exact t10
  · rw [hF a (cl_off G hk rfl (Or.inl (by omega)))]; exact t12 a a1 a2
  · obtain ⟨d15, d22, d23, d24, d25, d26, d27, d28⟩ := t13
    have k22 : ∀ a k, 21 < k → ck a = k → h'.2.2 a = h.2.2 a := fun a k h21 e => hF a (cl_off G hk e (Or.inr h21))
    refine ⟨fun a ha => ?_, fun a ha => ?_, fun a ha => ?_, fun a ha => ?_, fun a ha => ?_, fun a ha => ?_, fun a ha => ?_, fun a ha => ?_⟩
    · by_cases e : a = t
      · subst e; exact I
      · have hx := d15 a ha
        have o0 := hF (a + 0) (cl_off15 G hk ha e 0 (by decide))
        have o1 := hF (a + 1) (cl_off15 G hk ha e 1 (by decide))
        have o2 := hF (a + 2) (cl_off15 G hk ha e 2 (by decide))
        have o3 := hF (a + 3) (cl_off15 G hk ha e 3 (by decide))
        have o4 := hF (a + 4) (cl_off15 G hk ha e 4 (by decide))
        have o5 := hF (a + 5) (cl_off15 G hk ha e 5 (by decide))
        have o6 := hF (a + 6) (cl_off15 G hk ha e 6 (by decide))
        rw [Nat.add_zero] at o0
        rw [← o0, ← o1, ← o2, ← o3, ← o4, ← o5, ← o6] at hx
        exact hx
    · rw [k22 a _ (by decide) ha]; exact d22 a ha
    · rw [k22 a _ (by decide) ha]; exact d23 a ha
    · rw [k22 a _ (by decide) ha]; exact d24 a ha
    · rw [k22 a _ (by decide) ha]; exact d25 a ha
    · rw [k22 a _ (by decide) ha]; exact d26 a ha
    · rw [k22 a _ (by decide) ha]; exact d27 a ha
    · rw [k22 a _ (by decide) ha]; exact d28 a ha
theorem cl_txt1 {x : Nat} (G : cl_G ck E) (T : cl_T ck E m o h) (z : ck x = 1) : (∃ fs, h.2.2 x = .inr (4, fs)) ∧ 16 ≤ x ∧ x < h.1 := by
  obtain ⟨_, _, _, _, _, _, _, _, _, _, _, ob, _⟩ := (G.2.1 x z).2.2.2.2.2
  exact ⟨⟨_, T.im z (by decide) (by decide) ob⟩, G.ge z (by decide), T.al z (by decide)⟩
theorem cl_txt2 {x : Nat} (G : cl_G ck E) (T : cl_T ck E m o h) (z : ck x = 7) : (∃ fs, h.2.2 x = .inr (5, fs)) ∧ 16 ≤ x ∧ x < h.1 := by
  obtain ⟨_, _, _, _, ob, _⟩ := (G.2.2.1 x z).2
  exact ⟨⟨_, T.im z (by decide) (by decide) ob⟩, G.ge z (by decide), T.al z (by decide)⟩
theorem cl_txt3 {x : Nat} (G : cl_G ck E) (T : cl_T ck E m o h) (z : ck x = 9) : (∃ fs, h.2.2 x = .inr (1, fs)) ∧ 16 ≤ x ∧ x < h.1 := by
  obtain ⟨_, _, _, _, _, _, _, _, ob, _⟩ := (G.2.2.2.1 x z).2.2.2
  exact ⟨⟨_, T.im z (by decide) (by decide) ob⟩, G.ge z (by decide), T.al z (by decide)⟩
theorem cl_txt4 {x : Nat} (G : cl_G ck E) (T : cl_T ck E m o h) (z : ck x = 13) : (∃ fs, h.2.2 x = .inr (0, fs)) ∧ 16 ≤ x ∧ x < h.1 := by
  obtain ⟨_, _, _, ob, _⟩ := (G.2.2.2.2.1 x z).2
  exact ⟨⟨_, T.im z (by decide) (by decide) ob⟩, G.ge z (by decide), T.al z (by decide)⟩
end
