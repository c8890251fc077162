section
/-! the law: what holds behind every call -/
variable {ck ck1 : cl_K} {E E1 : Nat → pm_E} {m m1 mr : Nat → Int32} {o o1 : Nat → Option Nat} {wr : Int64} {h h1 h2 : pm_H} {L j : Nat} {xs : Nat → Int32}
def p2_O (t : Nat) (v x y : Int32) : pm_E := .inr (8, [.ref (t + 1), .int v, .int x, .int y, .ref (t + 2), .ref (t + 3), .ref (t + 4), .ref (t + 5), .ref (t + 6)])
/-- how much was told, here and there; images -/
def p2_S (m : Nat → Int32) (h : pm_H) : Prop := ∃ (g q : Nat → Int32) (f : Nat → Option Nat), h.2.2 43 = .inl (0, 4, .inl g) ∧ h.2.2 71 = .inl (3, 3, .inl q) ∧ h.2.2 24 = .inl (8, 3, .inr (.inr (.inr (.inr f)))) ∧ (m 0).toInt = (g 0).toInt ∧ (∀ i, i < 3 → (f i = none ↔ q i = 0)) ∧ (∀ i t, i < 3 → f i = some t → ∃ v x y, h.2.2 t = p2_O t v x y ∧ v.toInt = (g (i + 1)).toInt) ∧ (∀ i k t, i < 3 → k < 3 → f i = some t → f k = some t → i = k)
/-- room: what is made, and what charts may still need -/
def p2_R (o : Nat → Option Nat) (h : pm_H) (B : Nat) : Prop := ∃ f : Nat → Option Nat, h.2.2 37 = .inl (9, 2, .inr (.inr (.inr (.inr f)))) ∧ cl_p37 f + cl_p0 (o 0) + h.2.1 ≤ B
def p2_I (L : Nat) (xs : Nat → Int32) (j : Nat) (h : pm_H) : Prop := ∃ (ck : cl_K) (E : Nat → pm_E) (m : Nat → Int32) (o : Nat → Option Nat) (mr : Nat → Int32) (wr : Int64), cl_G ck E ∧ cl_T ck E m o h ∧ rf_T mr wr h ∧ cl_Y h ∧ E 0 = .inl (0, L, .inl xs) ∧ p2_S m h ∧ p2_R o h (124992 + 1000 * j) ∧ h.1 ≤ 72 + 20 * j
theorem rf_T.keepF (Tr : rf_T mr wr h) (h72 : 72 ≤ h1.1) (hk : ∀ a, 41 ≤ a → a < 72 → h1.2.2 a = h.2.2 a) : rf_T mr wr h1 :=
  ⟨h72, by rw [hk 41 (by decide) (by decide)]; exact Tr.2.1, Tr.2.2.1, fun a a1 a2 => by rw [hk a (by omega) a2]; exact Tr.2.2.2.1 a a1 a2, by rw [hk 46 (by decide) (by decide), hk 48 (by decide) (by decide)]; exact Tr.2.2.2.2⟩
theorem cl_T.keepR (G : cl_G ck E) (T : cl_T ck E m o h) (h1e : h1.1 = h.1) (hk : ∀ a, (a < 41 ∨ 71 < a) → h1.2.2 a = h.2.2 a) : cl_T ck E m o h1 := by
  obtain ⟨t1, t2, t3, t4, t5, t6, t7, t8, t9, t10, t11, t12, t13, t14, t15⟩ := T
  refine ⟨by omega, by rw [hk 16 (by omega)]; exact t2, by rw [hk 17 (by omega)]; exact t3, by rw [hk 25 (by omega)]; exact t4, by rw [hk 30 (by omega)]; exact t5, by rw [hk 31 (by omega)]; exact t6, by rw [hk 33 (by omega)]; exact t7, t8, fun a a1 a2 => by rw [hk a (by omega)]; exact t9 a a1 a2, ?_, fun a ha => by rw [h1e]; exact t11 a ha, fun a a1 a2 => ?_, cl_D.low G t13 (fun b hb => hk b (by omega)), t14, fun a ha => by rw [hk a (by omega)]; exact t15 a ha⟩
  · rw [hk 19 (by omega), hk 20 (by omega), hk 21 (by omega), hk 22 (by omega), hk 23 (by omega)]; exact t10
  · have := G.1 a (by omega)
    rw [hk a (by omega)]; exact t12 a a1 a2
/-- a question to the class leaves the other side, and how much was told -/
theorem p2_oth {A : List Nat} {n s : Nat} (G : cl_G ck E) (F : cl_F ck A n s h h1) (hA : (A.all fun a => decide (16 ≤ a) && decide (a < 41)) = true) : ∀ a, 41 ≤ a → a < 72 → h1.2.2 a = h.2.2 a := fun a a1 a2 => by
  refine F.cell G (fun z => ?_) a2 rfl
  have := List.all_eq_true.mp hA a z
  simp only [Bool.and_eq_true, decide_eq_true_eq] at this
  omega
theorem p2_S.cl {A : List Nat} {n s : Nat} (G : cl_G ck E) (T : cl_T ck E m o h) (S : p2_S m h) (F : cl_F ck A n s h h1) (hA : (A.all fun a => decide (16 ≤ a) && decide (a < 41)) = true) (h24 : 24 ∉ A) (hm : m1 0 = m 0) : p2_S m1 h1 := by
  obtain ⟨g, q, f, e1, e2, e3, e4, e5, e6, e7⟩ := S
  have ot := p2_oth G F hA
  obtain ⟨f0, ef0, hO⟩ := T.C 24 (by decide) (by decide)
  rw [e3] at ef0; cases ef0
  refine ⟨g, q, f, (ot 43 (by decide) (by decide)).trans e1, (ot 71 (by decide) (by decide)).trans e2, F.cell G h24 (by decide) e3, by rw [hm]; exact e4, e5, fun i t hi ht => ?_, e7⟩
  obtain ⟨v, x, y, w1, w2⟩ := e6 i t hi ht
  have hk := hO i t ht
  have ht72 := G.1 t (by rw [hk]; decide)
  refine ⟨v, x, y, (F.2.2.2.2 t (T.al hk (by decide)) (fun z => ?_) (by rw [hk]; decide)).trans w1, w2⟩
  have := List.all_eq_true.mp hA t z
  simp only [Bool.and_eq_true, decide_eq_true_eq] at this
  omega
theorem cl_Y.cl {A : List Nat} {n s : Nat} (G : cl_G ck E) (Y : cl_Y h) (F : cl_F ck A n s h h1) (h28 : 28 ∉ A) : cl_Y h1 := by
  obtain ⟨f, e, b⟩ := Y
  exact ⟨f, F.cell G h28 (by decide) e, b⟩
theorem p2_R.cl {A : List Nat} {n s B : Nat} (G : cl_G ck E) (T : cl_T ck E m o h) (T1 : cl_T ck1 E1 m1 o1 h1) (R : p2_R o h B) (F : cl_F ck A n s h h1) (h16 : 16 ∉ A) (h37 : 37 ∉ A) (hs : s ≤ 1000) : p2_R o1 h1 (B + 1000) := by
  obtain ⟨f, e, b⟩ := R
  have z := cl_o0 (F.cell G h16 (by decide) T.e16) T1.e16
  have := F.2.2.2.1
  exact ⟨f, F.cell G h37 (by decide) e, by rw [z]; omega⟩
theorem p2_R.le {B B' : Nat} (R : p2_R o h B) (hb : B ≤ B') : p2_R o h B' := by
  obtain ⟨f, e, b⟩ := R
  exact ⟨f, e, Nat.le_trans b hb⟩
theorem p2_up (I : p2_I L xs j h) : p2_I L xs (j + 1) h := by
  obtain ⟨ck, E, m, o, mr, wr, G, T, Tr, Y, e0, S, ⟨f, e, b⟩, hc⟩ := I
  exact ⟨ck, E, m, o, mr, wr, G, T, Tr, Y, e0, S, ⟨f, e, by omega⟩, by omega⟩
/-- behind a question to the class -/
theorem p2_cl {A : List Nat} {n s : Nat} (G : cl_G ck E) (T : cl_T ck E m o h) (Tr : rf_T mr wr h) (Y : cl_Y h) (e0 : E 0 = .inl (0, L, .inl xs)) (S : p2_S m h) (R : p2_R o h (124992 + 1000 * j)) (hc : h.1 ≤ 72 + 20 * j) (T1 : cl_T ck E m1 o1 h1) (F : cl_F ck A n s h h1) (hm : m1 0 = m 0) (hA : (A.all fun a => decide (16 ≤ a) && decide (a < 41)) = true) (h24 : 24 ∉ A) (h28 : 28 ∉ A) (h16 : 16 ∉ A) (h37 : 37 ∉ A) (hn : n ≤ 20) (hs : s ≤ 1000) : p2_I L xs (j + 1) h1 := by
  have := F.2.2.1
  exact ⟨ck, E, m1, o1, mr, wr, G, T1, Tr.keepF T1.1 (p2_oth G F hA), Y.cl G F h28, e0, S.cl G T F hA h24 hm, (R.cl G T T1 F h16 h37 hs).le (by omega), by omega⟩
/-- the same, where kinds have grown and room is told apart -/
theorem p2_clg {A : List Nat} {n s : Nat} (G : cl_G ck E) (T : cl_T ck E m o h) (Tr : rf_T mr wr h) (S : p2_S m h) (hc : h.1 ≤ 72 + 20 * j) (G1 : cl_G ck1 E1) (T1 : cl_T ck1 E1 m1 o1 h1) (e1 : E1 0 = .inl (0, L, .inl xs)) (Y1 : cl_Y h1) (R1 : p2_R o1 h1 (124992 + 1000 * j + 1000)) (F : cl_F ck A n s h h1) (hm : m1 0 = m 0) (hA : (A.all fun a => decide (16 ≤ a) && decide (a < 41)) = true) (h24 : 24 ∉ A) (hn : n ≤ 20) : p2_I L xs (j + 1) h1 := by
  have := F.2.2.1
  exact ⟨ck1, E1, m1, o1, mr, wr, G1, T1, Tr.keepF T1.1 (p2_oth G F hA), Y1, e1, S.cl G T F hA h24 hm, R1.le (by omega), by omega⟩
/-- behind a question to the other side -/
theorem p2_rf {A : List Nat} {m2 : Nat → Int32} {w2 : Int64} (G : cl_G ck E) (T : cl_T ck E m o h) (Y : cl_Y h) (e0 : E 0 = .inl (0, L, .inl xs)) (S : p2_S m h) (R : p2_R o h (124992 + 1000 * j)) (hc : h.1 ≤ 72 + 20 * j) (T2 : rf_T m2 w2 h2) (F : rf_G A h h2) (hA : (A.all fun a => decide (41 ≤ a) && decide (a < 71) && decide (a ≠ 43)) = true) : p2_I L xs j h2 := by
  have no : ∀ a, (a < 41 ∨ 70 < a ∨ a = 43) → h2.2.2 a = h.2.2 a := fun a ha => F.2.2 a (fun z => by
    have := List.all_eq_true.mp hA a z
    simp only [Bool.and_eq_true, decide_eq_true_eq] at this
    omega)
  obtain ⟨g, q, f, e1, e2, e3, e4, e5, e6, e7⟩ := S
  obtain ⟨fy, ey, by_⟩ := Y
  obtain ⟨fr, er, br⟩ := R
  obtain ⟨f0, ef0, hO⟩ := T.C 24 (by decide) (by decide)
  rw [e3] at ef0; cases ef0
  refine ⟨ck, E, m, o, m2, w2, G, T.keepR G F.1 (fun a ha => no a (by omega)), T2, ⟨fy, (no 28 (by omega)).trans ey, by_⟩, e0, ⟨g, q, f, (no 43 (by omega)).trans e1, (no 71 (by omega)).trans e2, (no 24 (by omega)).trans e3, e4, e5, fun i t hi ht => ?_, e7⟩, ⟨fr, (no 37 (by omega)).trans er, by rw [F.2.1]; exact br⟩, by rw [F.1]; exact hc⟩
  obtain ⟨v, x, y, w1, w2⟩ := e6 i t hi ht
  have ht72 := G.1 t (by rw [hO i t ht]; decide)
  exact ⟨v, x, y, (no t (by omega)).trans w1, w2⟩
/-- where the other side's sizes change -/
theorem p2_rfS {A : List Nat} {m2 : Nat → Int32} {w2 : Int64} (G : cl_G ck E) (T : cl_T ck E m o h) (Y : cl_Y h) (e0 : E 0 = .inl (0, L, .inl xs)) (R : p2_R o h (124992 + 1000 * j)) (hc : h.1 ≤ 72 + 20 * j) (T2 : rf_T m2 w2 h2) (F : rf_G A h h2) (hA : (A.all fun a => decide (41 ≤ a) && decide (a < 72)) = true) (S2 : p2_S m h2) : p2_I L xs j h2 := by
  have no : ∀ a, (a < 41 ∨ 71 < a) → h2.2.2 a = h.2.2 a := fun a ha => F.2.2 a (fun z => by
    have := List.all_eq_true.mp hA a z
    simp only [Bool.and_eq_true, decide_eq_true_eq] at this
    omega)
  obtain ⟨fy, ey, by_⟩ := Y
  obtain ⟨fr, er, br⟩ := R
  exact ⟨ck, E, m, o, m2, w2, G, T.keepR G F.1 no, T2, ⟨fy, (no 28 (by omega)).trans ey, by_⟩, e0, S2, ⟨fr, (no 37 (by omega)).trans er, by rw [F.2.1]; exact br⟩, by rw [F.1]; exact hc⟩
theorem p2_hi {A : List Nat} (F : rf_G A h h2) (hA : (A.all fun a => decide (41 ≤ a) && decide (a < 72)) = true) : ∀ a, (a < 41 ∨ 71 < a) → h2.2.2 a = h.2.2 a := fun a ha => F.2.2 a (fun z => by
    have := List.all_eq_true.mp hA a z
    simp only [Bool.and_eq_true, decide_eq_true_eq] at this
    omega)
theorem p2_ad {n c : Nat} {k : Int32} (hk : k = Int32.ofNat c) : Int32.ofNat n + k = Int32.ofNat (n + c) := by rw [Int32.ofNat_add, hk]
theorem p2_in {n : Nat} (h : n < L) (hL : L ≤ 3584) : pm_in (Int32.ofNat n) L = true := by
  unfold pm_in
  rw [Bool.and_eq_true]
  refine ⟨decide_eq_true (Int32.le_iff_toInt_le.mpr (by rw [sf_ofT (by omega)]; have e0 : (0 : Int32).toInt = 0 := rfl; omega)), decide_eq_true (by rw [cl_tnN (by omega)]; exact h)⟩
end
