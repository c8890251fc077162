section
/-! cells made new: a group of kinds, one behind the other (1 LIST, 7 ROW, 9 MEAL, 13 HOUSE, 15 image, 22 ways, 24 short ROWS) -/
def cl_gr (ck : cl_K) (t n k0 : Nat) : cl_K := fun a => if t ≤ a ∧ a < t + n then k0 + (a - t) else ck a
def cl_gp (k0 n : Nat) : Prop := (k0 = 1 ∧ n = 6) ∨ (k0 = 7 ∧ n = 2) ∨ (k0 = 9 ∧ n = 4) ∨ (k0 = 13 ∧ n = 2) ∨ (k0 = 15 ∧ n = 7) ∨ (k0 = 22 ∧ n = 2) ∨ (k0 = 24 ∧ n = 5)
theorem cl_gr_lt {ck : cl_K} {t n k0 a : Nat} (h : a < t) : cl_gr ck t n k0 a = ck a := by
  unfold cl_gr; rw [if_neg (by omega)]
theorem cl_gr_new {ck : cl_K} {t n k0 i : Nat} (h : i < n) : cl_gr ck t n k0 (t + i) = k0 + i := by
  unfold cl_gr; rw [if_pos (by omega)]; omega
theorem cl_gr_new0 {ck : cl_K} {t n k0 : Nat} (h : 0 < n) : cl_gr ck t n k0 t = k0 := cl_gr_new (i := 0) h
theorem cl_gr_back {ck : cl_K} {t n k0 a k : Nat} (h : cl_gr ck t n k0 a = k) : (t ≤ a ∧ a < t + n ∧ k = k0 + (a - t)) ∨ ck a = k := by
  unfold cl_gr at h
  by_cases e : t ≤ a ∧ a < t + n
  · rw [if_pos e] at h; exact Or.inl ⟨e.1, e.2, h.symm⟩
  · rw [if_neg e] at h; exact Or.inr h
theorem cl_gr_old {ck : cl_K} {t n k0 : Nat} (hlt : ∀ a, ck a ≠ 0 → a < t) (b : Nat) (hb : ck b ≠ 0) : cl_gr ck t n k0 b = ck b := cl_gr_lt (hlt b hb)
theorem cl_L.congr {E E' : Nat → pm_E} {a : Nat} (h0 : E' a = E a) (h1 : E' (a + 1) = E (a + 1)) (h2 : E' (a + 2) = E (a + 2)) (h3 : E' (a + 3) = E (a + 3)) (h4 : E' (a + 4) = E (a + 4)) (h5 : E' (a + 5) = E (a + 5)) (x : cl_L E a) : cl_L E' a := by
  unfold cl_L; rw [h0, h1, h2, h3, h4, h5]; exact x
theorem cl_R.congr {E E' : Nat → pm_E} {a : Nat} (h0 : E' a = E a) (h1 : E' (a + 1) = E (a + 1)) (x : cl_R E a) : cl_R E' a := by
  unfold cl_R; rw [h0, h1]; exact x
theorem cl_M.congr {E E' : Nat → pm_E} {a : Nat} (h0 : E' a = E a) (h1 : E' (a + 1) = E (a + 1)) (h2 : E' (a + 2) = E (a + 2)) (h3 : E' (a + 3) = E (a + 3)) (x : cl_M E a) : cl_M E' a := by
  unfold cl_M; rw [h0, h1, h2, h3]; exact x
theorem cl_H.congr {E E' : Nat → pm_E} {a : Nat} (h0 : E' a = E a) (h1 : E' (a + 1) = E (a + 1)) (x : cl_H E a) : cl_H E' a := by
  unfold cl_H; rw [h0, h1]; exact x
theorem cl_gr_G {ck : cl_K} {E E' : Nat → pm_E} {t n k0 : Nat} (G : cl_G ck E) (hlt : ∀ a, ck a ≠ 0 → a < t) (ht : 72 ≤ t) (hg : cl_gp k0 n) (hE : ∀ a, a < t → E' a = E a) (n1 : k0 = 1 → cl_L E' t) (n7 : k0 = 7 → cl_R E' t) (n9 : k0 = 9 → cl_M E' t) (n13 : k0 = 13 → cl_H E' t) : cl_G (cl_gr ck t n k0) E' := by
  obtain ⟨g0, g1, g7, g9, g13, g15, g22, g24, gs⟩ := G
  unfold cl_gp at hg
  have lt : ∀ b k, k ≠ 0 → ck b = k → b < t := fun b k hk hb => hlt b (by rw [hb]; exact hk)
  have old := fun (b k : Nat) (hk : k ≠ 0) (hb : ck b = k) => (cl_gr_old (n := n) (k0 := k0) hlt b (by rw [hb]; exact hk)).trans hb
  refine ⟨fun a ha => ?_, fun a ha => ?_, fun a ha => ?_, fun a ha => ?_, fun a ha => ?_, fun a ha => ?_, fun a ha => ?_, fun a ha => ?_, ?_⟩
  · by_cases e : t ≤ a
    · omega
    · rw [cl_gr_lt (by omega)] at ha; exact g0 a ha
  · rcases cl_gr_back ha with z | z
    · have q : k0 = 1 ∧ a = t ∧ n = 6 := by omega
      obtain ⟨q1, q2, q3⟩ := q
      subst q1; subst q2; subst q3
      exact ⟨cl_gr_new (by decide), cl_gr_new (by decide), cl_gr_new (by decide), cl_gr_new (by decide), cl_gr_new (by decide), n1 rfl⟩
    · obtain ⟨a1, a2, a3, a4, a5, a6⟩ := g1 a z
      exact ⟨old _ _ (by decide) a1, old _ _ (by decide) a2, old _ _ (by decide) a3, old _ _ (by decide) a4, old _ _ (by decide) a5, a6.congr (hE _ (lt _ _ (by decide) z)) (hE _ (lt _ _ (by decide) a1)) (hE _ (lt _ _ (by decide) a2)) (hE _ (lt _ _ (by decide) a3)) (hE _ (lt _ _ (by decide) a4)) (hE _ (lt _ _ (by decide) a5))⟩
  · rcases cl_gr_back ha with z | z
    · have q : k0 = 7 ∧ a = t ∧ n = 2 := by omega
      obtain ⟨q1, q2, q3⟩ := q
      subst q1; subst q2; subst q3
      exact ⟨cl_gr_new (by decide), n7 rfl⟩
    · obtain ⟨a1, a2⟩ := g7 a z
      exact ⟨old _ _ (by decide) a1, a2.congr (hE _ (lt _ _ (by decide) z)) (hE _ (lt _ _ (by decide) a1))⟩
  · rcases cl_gr_back ha with z | z
    · have q : k0 = 9 ∧ a = t ∧ n = 4 := by omega
      obtain ⟨q1, q2, q3⟩ := q
      subst q1; subst q2; subst q3
      exact ⟨cl_gr_new (by decide), cl_gr_new (by decide), cl_gr_new (by decide), n9 rfl⟩
    · obtain ⟨a1, a2, a3, a4⟩ := g9 a z
      exact ⟨old _ _ (by decide) a1, old _ _ (by decide) a2, old _ _ (by decide) a3, a4.congr (hE _ (lt _ _ (by decide) z)) (hE _ (lt _ _ (by decide) a1)) (hE _ (lt _ _ (by decide) a2)) (hE _ (lt _ _ (by decide) a3))⟩
  · rcases cl_gr_back ha with z | z
    · have q : k0 = 13 ∧ a = t ∧ n = 2 := by omega
      obtain ⟨q1, q2, q3⟩ := q
      subst q1; subst q2; subst q3
      exact ⟨cl_gr_new (by decide), n13 rfl⟩
    · obtain ⟨a1, a2⟩ := g13 a z
      exact ⟨old _ _ (by decide) a1, a2.congr (hE _ (lt _ _ (by decide) z)) (hE _ (lt _ _ (by decide) a1))⟩
  · rcases cl_gr_back ha with z | z
    · have q : k0 = 15 ∧ a = t ∧ n = 7 := by omega
      obtain ⟨q1, q2, q3⟩ := q
      subst q1; subst q2; subst q3
      exact ⟨cl_gr_new (by decide), cl_gr_new (by decide), cl_gr_new (by decide), cl_gr_new (by decide), cl_gr_new (by decide), cl_gr_new (by decide)⟩
    · obtain ⟨a1, a2, a3, a4, a5, a6⟩ := g15 a z
      exact ⟨old _ _ (by decide) a1, old _ _ (by decide) a2, old _ _ (by decide) a3, old _ _ (by decide) a4, old _ _ (by decide) a5, old _ _ (by decide) a6⟩
  · rcases cl_gr_back ha with z | z
    · have q : k0 = 22 ∧ a = t ∧ n = 2 := by omega
      obtain ⟨q1, q2, q3⟩ := q
      subst q1; subst q2; subst q3
      exact cl_gr_new (by decide)
    · exact old _ _ (by decide) (g22 a z)
  · rcases cl_gr_back ha with z | z
    · have q : k0 = 24 ∧ a = t ∧ n = 5 := by omega
      obtain ⟨q1, q2, q3⟩ := q
      subst q1; subst q2; subst q3
      exact ⟨cl_gr_new (by decide), cl_gr_new (by decide), cl_gr_new (by decide), cl_gr_new (by decide)⟩
    · obtain ⟨a1, a2, a3, a4⟩ := g24 a z
      exact ⟨old _ _ (by decide) a1, old _ _ (by decide) a2, old _ _ (by decide) a3, old _ _ (by decide) a4⟩
  · unfold cl_S
    rw [hE 1 (by omega), hE 2 (by omega), hE 3 (by omega), hE 4 (by omega), hE 5 (by omega), hE 6 (by omega), hE 7 (by omega), hE 8 (by omega), hE 9 (by omega), hE 10 (by omega), hE 11 (by omega), hE 12 (by omega), hE 13 (by omega), hE 14 (by omega)]
    exact gs
/-- an image at a -/
def cl_I (ck : cl_K) (h : pm_H) (a : Nat) : Prop := ∃ s t u : Int32, sf_B 0 600 s ∧ sf_B 0 4 t ∧ sf_B (-1) 600 u ∧ h.2.2 a = .inr (8, [.ref (a + 1), .int s, .int t, .int u, .ref (a + 2), .ref (a + 3), .ref (a + 4), .ref (a + 5), .ref (a + 6)]) ∧ cl_C ck 18 (h.2.2 (a + 1)) ∧ cl_C ck 19 (h.2.2 (a + 2)) ∧ cl_C ck 20 (h.2.2 (a + 3)) ∧ cl_C ck 21 (h.2.2 (a + 4)) ∧ cl_C ck 22 (h.2.2 (a + 5)) ∧ cl_C ck 23 (h.2.2 (a + 6)) ∧ cl_N (h.2.2 (a + 2)) (h.2.2 (a + 3)) (h.2.2 (a + 4)) (h.2.2 (a + 5)) (h.2.2 (a + 6))
theorem cl_gr_D {ck : cl_K} {E : Nat → pm_E} {h h' : pm_H} {t n k0 : Nat} (G : cl_G ck E) (D : cl_D ck h) (hlt : ∀ a, ck a ≠ 0 → a < t) (hg : cl_gp k0 n) (hh : ∀ a, a < t → 15 ≤ ck a → h'.2.2 a = h.2.2 a) (n15 : k0 = 15 → cl_I (cl_gr ck t n k0) h' t) (n22 : k0 = 22 → h'.2.2 t = .inr (10, [.ref (t + 1), .null, .null]) ∧ ∃ f, h'.2.2 (t + 1) = .inl (1, 23400, .inr (.inl f))) (n24 : k0 = 24 → (∃ (fi av ah an : Int32), sf_B 0 4 fi ∧ sf_B (-1) 11109 an ∧ h'.2.2 t = .inr (3, [.ref (t + 1), .ref (t + 2), .ref (t + 3), .ref (t + 4), .null, .int fi, .int av, .int ah, .int an])) ∧ (∃ f, h'.2.2 (t + 1) = .inl (0, 15, .inl f)) ∧ (∃ f, h'.2.2 (t + 2) = .inl (1, 6666, .inr (.inl f))) ∧ (∃ f, h'.2.2 (t + 3) = .inl (0, 6666, .inl f)) ∧ (∃ f, h'.2.2 (t + 4) = .inl (2, 11110, .inl f))) : cl_D (cl_gr ck t n k0) h' := by
  have hck := cl_gr_old (n := n) (k0 := k0) hlt
  have keep : ∀ a k, 15 ≤ k → ck a = k → h'.2.2 a = h.2.2 a := fun a k hk e => hh a (hlt a (by omega)) (by omega)
  have old := fun (b k : Nat) (hk : k ≠ 0) (hb : ck b = k) => (hck b (by rw [hb]; exact hk)).trans hb
  unfold cl_gp at hg
  obtain ⟨d15, d22, d23, d24, d25, d26, d27, d28⟩ := D
  refine ⟨fun a ha => ?_, fun a ha => ?_, fun a ha => ?_, fun a ha => ?_, fun a ha => ?_, fun a ha => ?_, fun a ha => ?_, fun a ha => ?_⟩
  · rcases cl_gr_back ha with z | hz
    · have q : k0 = 15 ∧ a = t := by omega
      obtain ⟨q1, q2⟩ := q
      subst q2
      exact n15 q1
    · obtain ⟨i1, i2, i3, i4, i5, i6⟩ := G.2.2.2.2.2.1 a hz
      obtain ⟨s, t', u, b1, b2, b3, e, c1, c2, c3, c4, c5, c6, nn⟩ := d15 a hz
      rw [← keep a _ (by decide) hz] at e
      rw [← keep _ _ (by decide) i1] at c1
      rw [← keep _ _ (by decide) i2] at c2
      rw [← keep _ _ (by decide) i3] at c3
      rw [← keep _ _ (by decide) i4] at c4
      rw [← keep _ _ (by decide) i5] at c5
      rw [← keep _ _ (by decide) i6] at c6
      rw [← keep _ _ (by decide) i2, ← keep _ _ (by decide) i3, ← keep _ _ (by decide) i4, ← keep _ _ (by decide) i5, ← keep _ _ (by decide) i6] at nn
      exact ⟨s, t', u, b1, b2, b3, e, c1.mono hck, c2.mono hck, c3.mono hck, c4.mono hck, c5.mono hck, c6.mono hck, nn⟩
  · rcases cl_gr_back ha with z | hz
    · have q : k0 = 22 ∧ a = t := by omega
      obtain ⟨q1, q2⟩ := q
      subst q2
      refine ⟨none, none, (n22 q1).1, ?_, ?_⟩
      · intro b hb; exact absurd hb (by simp)
      · intro b hb; exact absurd hb (by simp)
    · obtain ⟨l, r, x, y, z⟩ := d22 a hz
      exact ⟨l, r, by rw [keep a _ (by decide) hz]; exact x, fun b hb => old _ _ (by decide) (y b hb), fun b hb => old _ _ (by decide) (z b hb)⟩
  · rcases cl_gr_back ha with z | hz
    · have q : k0 = 22 ∧ a = t + 1 := by omega
      obtain ⟨q1, q2⟩ := q
      subst q2
      exact (n22 q1).2
    · rw [keep a _ (by decide) hz]; exact d23 a hz
  · rcases cl_gr_back ha with z | hz
    · have q : k0 = 24 ∧ a = t := by omega
      obtain ⟨q1, q2⟩ := q
      subst q2
      obtain ⟨fi, av, ah, an, b1, b2, e⟩ := (n24 q1).1
      exact ⟨none, fi, av, ah, an, b1, b2, e, fun b hb => absurd hb (by simp)⟩
    · obtain ⟨l, fi, av, ah, an, b1, b2, x, y⟩ := d24 a hz
      exact ⟨l, fi, av, ah, an, b1, b2, by rw [keep a _ (by decide) hz]; exact x, fun b hb => old _ _ (by decide) (y b hb)⟩
  · rcases cl_gr_back ha with z | hz
    · have q : k0 = 24 ∧ a = t + 1 := by omega
      obtain ⟨q1, q2⟩ := q
      subst q2
      exact (n24 q1).2.1
    · rw [keep a _ (by decide) hz]; exact d25 a hz
  · rcases cl_gr_back ha with z | hz
    · have q : k0 = 24 ∧ a = t + 2 := by omega
      obtain ⟨q1, q2⟩ := q
      subst q2
      exact (n24 q1).2.2.1
    · rw [keep a _ (by decide) hz]; exact d26 a hz
  · rcases cl_gr_back ha with z | hz
    · have q : k0 = 24 ∧ a = t + 3 := by omega
      obtain ⟨q1, q2⟩ := q
      subst q2
      exact (n24 q1).2.2.2.1
    · rw [keep a _ (by decide) hz]; exact d27 a hz
  · rcases cl_gr_back ha with z | hz
    · have q : k0 = 24 ∧ a = t + 4 := by omega
      obtain ⟨q1, q2⟩ := q
      subst q2
      exact (n24 q1).2.2.2.2
    · rw [keep a _ (by decide) hz]; exact d28 a hz
/-- a group of cells made new at the heap's end -/
theorem cl_T.grow {ck : cl_K} {E E' : Nat → pm_E} {m : Nat → Int32} {o : Nat → Option Nat} {h h' : pm_H} {n k0 : Nat} (G : cl_G ck E) (T : cl_T ck E m o h) (hg : cl_gp k0 n) (hE : ∀ a, a < h.1 → E' a = E a) (hh : ∀ a, a < h.1 → h'.2.2 a = h.2.2 a) (h1 : h.1 + n ≤ h'.1) (him : k0 < 15 → ∀ i, i < n → h'.2.2 (h.1 + i) = E' (h.1 + i)) (n15 : k0 = 15 → cl_I (cl_gr ck h.1 n k0) h' h.1) (n22 : k0 = 22 → h'.2.2 h.1 = .inr (10, [.ref (h.1 + 1), .null, .null]) ∧ ∃ f, h'.2.2 (h.1 + 1) = .inl (1, 23400, .inr (.inl f))) (n24 : k0 = 24 → (∃ (fi av ah an : Int32), sf_B 0 4 fi ∧ sf_B (-1) 11109 an ∧ h'.2.2 h.1 = .inr (3, [.ref (h.1 + 1), .ref (h.1 + 2), .ref (h.1 + 3), .ref (h.1 + 4), .null, .int fi, .int av, .int ah, .int an])) ∧ (∃ f, h'.2.2 (h.1 + 1) = .inl (0, 15, .inl f)) ∧ (∃ f, h'.2.2 (h.1 + 2) = .inl (1, 6666, .inr (.inl f))) ∧ (∃ f, h'.2.2 (h.1 + 3) = .inl (0, 6666, .inl f)) ∧ (∃ f, h'.2.2 (h.1 + 4) = .inl (2, 11110, .inl f))) : cl_T (cl_gr ck h.1 n k0) E' m o h' := by
  have hlt := T.2.2.2.2.2.2.2.2.2.2.1
  have h72 := T.1
  refine T.ext (cl_gr_old hlt) (fun a ha => hE a (by omega)) hh (by omega) (fun a ha => ?_) (fun a a1 a2 => ?_) (cl_gr_D G T.D hlt hg (fun a ha _ => hh a ha) n15 n22 n24)
  · by_cases e : h.1 ≤ a ∧ a < h.1 + n
    · omega
    · unfold cl_gr at ha; rw [if_neg e] at ha; have := hlt a ha; omega
  · rcases cl_gr_back (k := cl_gr ck h.1 n k0 a) rfl with z | z
    · have := him (by omega) (a - h.1) (by omega)
      rw [show h.1 + (a - h.1) = a by omega] at this
      exact this
    · rw [← z] at a1 a2
      have hz := hlt a (by omega)
      rw [hh a hz, hE a hz]
      exact T.2.2.2.2.2.2.2.2.2.2.2.1 a a1 a2
end
