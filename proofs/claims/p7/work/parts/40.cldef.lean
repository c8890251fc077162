section
/-! THE CLASS: its object at 16, what it holds at 17 to 40; texts, images, charts from 72 on. ck: what lies in a cell (0: nothing that is known), E: what lies in a text's cells for ever. -/
abbrev cl_K : Type := Nat → Nat
/-- a LIST at a: values, wornTo, rules, readings, near behind it -/
def cl_L (E : Nat → pm_E) (a : Nat) : Prop := ∃ (rc tc : Nat) (rs : Int32) (fv : Nat → Int64) (fw fr ft fn : Nat → Int32), rc ≤ 10 ∧ tc ≤ 16 ∧ sf_B 0 9 rs ∧ E a = .inr (4, [.int (Int32.ofNat rc), .ref (a + 3), .int (Int32.ofNat tc), .ref (a + 4), .ref (a + 5), .ref (a + 1), .ref (a + 2), .int rs]) ∧ E (a + 1) = .inl (1, 60, .inr (.inl fv)) ∧ E (a + 2) = .inl (0, 100, .inl fw) ∧ E (a + 3) = .inl (0, 4 * rc, .inl fr) ∧ E (a + 4) = .inl (0, 4 * tc, .inl ft) ∧ E (a + 5) = .inl (0, 10, .inl fn) ∧ (∀ k, k < rc → sf_B 0 5 (fr (4 * k)) ∧ sf_B 0 5 (fr (4 * k + 1)) ∧ sf_B 0 5 (fr (4 * k + 2))) ∧ (∀ k, k < tc → sf_B 0 9 (ft (4 * k)) ∧ sf_B 0 5 (ft (4 * k + 1)) ∧ sf_B 0 49 (ft (4 * k + 2))) ∧ (∀ j, sf_B 0 1023 (fn j))
/-- a ROW -/
def cl_R (E : Nat → pm_E) (a : Nat) : Prop := ∃ (n : Nat) (f : Nat → Int32), 1 ≤ n ∧ n ≤ 12 ∧ E a = .inr (5, [.int (Int32.ofNat n), .ref (a + 1)]) ∧ E (a + 1) = .inl (0, n, .inl f) ∧ ∀ j, sf_B 0 9 (f j)
/-- a MEAL: deeds, gaze, saw -/
def cl_M (E : Nat → pm_E) (a : Nat) : Prop := ∃ (s n : Nat) (fd fg fs : Nat → Int32), 1 ≤ s ∧ s ≤ 6 ∧ n ≤ 50 ∧ E a = .inr (1, [.int (Int32.ofNat s), .int (Int32.ofNat n), .ref (a + 1), .ref (a + 2), .ref (a + 3)]) ∧ E (a + 1) = .inl (0, 4 * n, .inl fd) ∧ E (a + 2) = .inl (0, (n + 1) * s, .inl fg) ∧ E (a + 3) = .inl (0, n, .inl fs) ∧ ∀ k, k < n → sf_B 0 2 (fd (4 * k)) ∧ (0 ≤ (fd (4 * k + 1)).toInt ∧ (fd (4 * k + 1)).toInt < s) ∧ sf_B (-1) 9 (fd (4 * k + 2)) ∧ ((fd (4 * k)).toInt = 2 → 0 ≤ (fd (4 * k + 2)).toInt)
/-- a HOUSE -/
def cl_H (E : Nat → pm_E) (a : Nat) : Prop := ∃ (n : Nat) (f : Nat → Int32), n ≤ 8 ∧ E a = .inr (0, [.int (Int32.ofNat n), .ref (a + 1)]) ∧ E (a + 1) = .inl (0, 4 * n, .inl f) ∧ ∀ k, k < n → sf_B 0 5 (f (4 * k)) ∧ sf_B 0 9 (f (4 * k + 1)) ∧ sf_B (-1) 9 (f (4 * k + 2))
/-- the class's tables and words, which were there before -/
def cl_S (E : Nat → pm_E) : Prop := E 1 = .inl (0, 4, .inl (fun j => pm_sv1.getD j 0)) ∧ E 2 = .inl (0, 13, .inl (fun j => pm_sv2.getD j 0)) ∧ E 3 = .inl (0, 39, .inl (fun j => pm_sv3.getD j 0)) ∧ E 4 = .inl (0, 13, .inl (fun j => pm_sv4.getD j 0)) ∧ E 5 = .inl (0, 5, .inl (fun j => pm_sv5.getD j 0)) ∧ E 6 = .inl (0, 5, .inl (fun j => pm_sv6.getD j 0)) ∧ E 7 = .inl (10, 0, .inl (fun _ => 0)) ∧ E 8 = .inl (10, 0, .inl (fun _ => 0)) ∧ E 9 = .inl (10, 0, .inl (fun _ => 0)) ∧ E 10 = .inl (10, 0, .inl (fun _ => 0)) ∧ E 11 = .inl (2, 14, .inl (fun j => (pm_sby.getD 0 []).getD j 0)) ∧ E 12 = .inl (2, 20, .inl (fun j => (pm_sby.getD 1 []).getD j 0)) ∧ E 13 = .inl (2, 33, .inl (fun j => (pm_sby.getD 2 []).getD j 0)) ∧ E 14 = .inl (2, 23, .inl (fun j => (pm_sby.getD 3 []).getD j 0))
/-- which kinds lie side by side -/
def cl_G (ck : cl_K) (E : Nat → pm_E) : Prop :=
  (∀ a, ck a ≠ 0 → 72 ≤ a) ∧
  (∀ a, ck a = 1 → ck (a + 1) = 2 ∧ ck (a + 2) = 3 ∧ ck (a + 3) = 4 ∧ ck (a + 4) = 5 ∧ ck (a + 5) = 6 ∧ cl_L E a) ∧
  (∀ a, ck a = 7 → ck (a + 1) = 8 ∧ cl_R E a) ∧
  (∀ a, ck a = 9 → ck (a + 1) = 10 ∧ ck (a + 2) = 11 ∧ ck (a + 3) = 12 ∧ cl_M E a) ∧
  (∀ a, ck a = 13 → ck (a + 1) = 14 ∧ cl_H E a) ∧
  (∀ a, ck a = 15 → ck (a + 1) = 16 ∧ ck (a + 2) = 17 ∧ ck (a + 3) = 18 ∧ ck (a + 4) = 19 ∧ ck (a + 5) = 20 ∧ ck (a + 6) = 21) ∧
  (∀ a, ck a = 22 → ck (a + 1) = 23) ∧
  (∀ a, ck a = 24 → ck (a + 1) = 25 ∧ ck (a + 2) = 26 ∧ ck (a + 3) = 27 ∧ ck (a + 4) = 28) ∧ cl_S E
/-- references of one kind -/
def cl_O (ck : cl_K) (k : Nat) (f : Nat → Option Nat) : Prop := ∀ i b, f i = some b → ck b = k
/-- arrays of the object and of images -/
def cl_C (ck : cl_K) (a : Nat) (x : pm_E) : Prop := match a with
  | 18 => ∃ f, x = .inl (2, 600, .inl f)
  | 19 => ∃ f, x = .inl (4, 2, .inr (.inr (.inr (.inr f)))) ∧ cl_O ck 1 f
  | 20 => ∃ f, x = .inl (5, 3, .inr (.inr (.inr (.inr f)))) ∧ cl_O ck 7 f
  | 21 => ∃ f, x = .inl (6, 2, .inr (.inr (.inr (.inr f)))) ∧ cl_O ck 9 f
  | 22 => ∃ f, x = .inl (7, 2, .inr (.inr (.inr (.inr f)))) ∧ cl_O ck 13 f
  | 23 => ∃ f, x = .inl (0, 4, .inl f) ∧ ∀ j, sf_B 0 (if j = 1 then 3 else 2) (f j)
  | 24 => ∃ f, x = .inl (8, 3, .inr (.inr (.inr (.inr f)))) ∧ cl_O ck 15 f
  | 26 => ∃ f, x = .inl (0, 200, .inl f)
  | 27 => ∃ f, x = .inl (0, 64, .inl f)
  | 28 => ∃ f, x = .inl (0, 10, .inl f)
  | 29 => ∃ f, x = .inl (0, 4, .inl f)
  | 32 => ∃ f, x = .inl (1, 468, .inr (.inl f))
  | 34 => ∃ f, x = .inl (1, 468, .inr (.inl f))
  | 35 => ∃ f, x = .inl (0, 12, .inl f)
  | 36 => ∃ f, x = .inl (0, 78, .inl f)
  | 37 => ∃ f, x = .inl (9, 2, .inr (.inr (.inr (.inr f)))) ∧ cl_O ck 24 f
  | 38 => ∃ f, x = .inl (0, 12, .inl f)
  | 39 => ∃ f, x = .inl (0, 50, .inl f)
  | 40 => ∃ f, x = .inl (0, 50, .inl f)
  | _ => True
/-- what is counted is there -/
def cl_N (l r me ho co : pm_E) : Prop := ∀ (c : Nat → Int32), co = .inl (0, 4, .inl c) → (∀ f, l = .inl (4, 2, .inr (.inr (.inr (.inr f)))) → ∀ i : Nat, (i : Int) < (c 0).toInt → ∃ b, f i = some b) ∧ (∀ f, r = .inl (5, 3, .inr (.inr (.inr (.inr f)))) → ∀ i : Nat, (i : Int) < (c 1).toInt → ∃ b, f i = some b) ∧ (∀ f, me = .inl (6, 2, .inr (.inr (.inr (.inr f)))) → ∀ i : Nat, (i : Int) < (c 2).toInt → ∃ b, f i = some b) ∧ (∀ f, ho = .inl (7, 2, .inr (.inr (.inr (.inr f)))) → ∀ i : Nat, (i : Int) < (c 3).toInt → ∃ b, f i = some b)
def cl_lo (k : Nat) : Int := match k with | 0 => 0 | 1 => 0 | 2 => -1 | 3 => 0 | 4 => -1 | 5 => 0 | 6 => 0 | 7 => 0 | 8 => -1 | 9 => 0 | 10 => 0 | 11 => 0 | 12 => 0 | 13 => 0 | _ => -2147483648
def cl_hi (k : Nat) : Int := match k with | 0 => 600 | 1 => 4 | 2 => 600 | 3 => 4 | 4 => 600 | 5 => 50 | 6 => 16 | 7 => 99 | 8 => 99 | 9 => 600 | 10 => 600 | 11 => 600 | 12 => 4 | 13 => 99 | _ => 2147483647
def cl_f16 (o : Nat → Option Nat) : List Value := [.ref 17, .ref 24, .ref 25, .ref 31, .ref 33, va_rf (o 0), .ref 37, .ref 38, .ref 39, .ref 40]
def cl_f17 (m : Nat → Int32) : List Value := [.ref 18, .int (m 0), .int (m 1), .int (m 2), .ref 19, .ref 20, .ref 21, .ref 22, .ref 23]
def cl_f25 (m : Nat → Int32) : List Value := [.ref 30, .int (m 3), .int (m 4), .ref 26, .int (m 5), .ref 27, .int (m 6), .ref 28, .int (m 7), .int (m 8), .ref 29]
def cl_f30 (m : Nat → Int32) : List Value := [.ref 18, .int (m 9), .int (m 10), .int (m 11), .int (m 12), .int (m 13)]
def cl_f33 (m : Nat → Int32) (o : Nat → Option Nat) : List Value := [.ref 34, .ref 35, .int (m 14), .int (m 15), .ref 36, va_rf (o 1), va_rf (o 2)]
/-- images, the charts that are made when first asked for -/
def cl_D (ck : cl_K) (h : pm_H) : Prop :=
  (∀ a, ck a = 15 → ∃ s t u : Int32, sf_B 0 600 s ∧ sf_B 0 4 t ∧ sf_B (-1) 600 u ∧ h.2.2 a = .inr (8, [.ref (a + 1), .int s, .int t, .int u, .ref (a + 2), .ref (a + 3), .ref (a + 4), .ref (a + 5), .ref (a + 6)]) ∧ cl_C ck 18 (h.2.2 (a + 1)) ∧ cl_C ck 19 (h.2.2 (a + 2)) ∧ cl_C ck 20 (h.2.2 (a + 3)) ∧ cl_C ck 21 (h.2.2 (a + 4)) ∧ cl_C ck 22 (h.2.2 (a + 5)) ∧ cl_C ck 23 (h.2.2 (a + 6)) ∧ cl_N (h.2.2 (a + 2)) (h.2.2 (a + 3)) (h.2.2 (a + 4)) (h.2.2 (a + 5)) (h.2.2 (a + 6))) ∧
  (∀ a, ck a = 22 → ∃ l r : Option Nat, h.2.2 a = .inr (10, [.ref (a + 1), va_rf l, va_rf r]) ∧ (∀ b, l = some b → ck b = 1) ∧ (∀ b, r = some b → ck b = 7)) ∧
  (∀ a, ck a = 23 → ∃ f, h.2.2 a = .inl (1, 23400, .inr (.inl f))) ∧
  (∀ a, ck a = 24 → ∃ (l : Option Nat) (fi av ah an : Int32), sf_B 0 4 fi ∧ sf_B (-1) 11109 an ∧ h.2.2 a = .inr (3, [.ref (a + 1), .ref (a + 2), .ref (a + 3), .ref (a + 4), va_rf l, .int fi, .int av, .int ah, .int an]) ∧ ∀ b, l = some b → ck b = 1) ∧
  (∀ a, ck a = 25 → ∃ f, h.2.2 a = .inl (0, 15, .inl f)) ∧
  (∀ a, ck a = 26 → ∃ f, h.2.2 a = .inl (1, 6666, .inr (.inl f))) ∧
  (∀ a, ck a = 27 → ∃ f, h.2.2 a = .inl (0, 6666, .inl f)) ∧
  (∀ a, ck a = 28 → ∃ f, h.2.2 a = .inl (2, 11110, .inl f))
def cl_T (ck : cl_K) (E : Nat → pm_E) (m : Nat → Int32) (o : Nat → Option Nat) (h : pm_H) : Prop :=
  72 ≤ h.1 ∧ h.2.2 16 = .inr (11, cl_f16 o) ∧ h.2.2 17 = .inr (8, cl_f17 m) ∧ h.2.2 25 = .inr (6, cl_f25 m) ∧ h.2.2 30 = .inr (7, cl_f30 m) ∧ h.2.2 31 = .inr (2, [.ref 32]) ∧ h.2.2 33 = .inr (9, cl_f33 m o) ∧
  (∀ k, sf_B (cl_lo k) (cl_hi k) (m k)) ∧ (∀ a, 16 ≤ a → a < 41 → cl_C ck a (h.2.2 a)) ∧ cl_N (h.2.2 19) (h.2.2 20) (h.2.2 21) (h.2.2 22) (h.2.2 23) ∧
  (∀ a, ck a ≠ 0 → a < h.1) ∧ (∀ a, 1 ≤ ck a → ck a ≤ 14 → h.2.2 a = E a) ∧ cl_D ck h ∧
  ((∀ b, o 0 = some b → ck b = 22) ∧ (∀ b, o 1 = some b → ck b = 1) ∧ (∀ b, o 2 = some b → ck b = 7)) ∧ (∀ a, a < 16 → h.2.2 a = E a)
end
section
/-- what a call leaves as it was: all cells that were there but those of A and the charts; at most n cells and s slots are made -/
def cl_F (ck : cl_K) (A : List Nat) (n s : Nat) (h h_q : pm_H) : Prop := 72 ≤ h.1 ∧ h.1 ≤ h_q.1 ∧ h_q.1 ≤ h.1 + n ∧ h_q.2.1 ≤ h.2.1 + s ∧ ∀ a, a < h.1 → a ∉ A → ck a < 22 → h_q.2.2 a = h.2.2 a
theorem cl_F.refl {ck : cl_K} {A : List Nat} {n s : Nat} {h : pm_H} (h72 : 72 ≤ h.1) : cl_F ck A n s h h := ⟨h72, Nat.le_refl _, Nat.le_add_right _ _, Nat.le_add_right _ _, fun _ _ _ _ => rfl⟩
theorem cl_F.trans {ck : cl_K} {A A_q : List Nat} {n s n_q s' N S : Nat} {h h1 h2 : pm_H} (x : cl_F ck A n s h h1) (y : cl_F ck A_q n_q s' h1 h2) (hl : ∀ k ∈ A_q, k ∈ A) (hn : n + n_q ≤ N) (hs : s + s' ≤ S) : cl_F ck A N S h h2 := by
  obtain ⟨x0, x1, x2, x3, x4⟩ := x
  obtain ⟨y0, y1, y2, y3, y4⟩ := y
  exact ⟨x0, by omega, by omega, by omega, fun a a1 a2 a3 => (y4 a (by omega) (fun z => a2 (hl a z)) a3).trans (x4 a a1 a2 a3)⟩
theorem cl_F.weak {ck : cl_K} {A : List Nat} {n s N S : Nat} {h h1 : pm_H} (x : cl_F ck A n s h h1) (hn : n ≤ N) (hs : s ≤ S) : cl_F ck A N S h h1 := by
  obtain ⟨x0, x1, x2, x3, x4⟩ := x
  exact ⟨x0, x1, by omega, by omega, x4⟩
theorem rf_G.cl {ck : cl_K} {A : List Nat} {h h_q : pm_H} (x : rf_G A h h_q) (h72 : 72 ≤ h.1) : cl_F ck A 0 0 h h_q := ⟨h72, by rw [x.1]; exact Nat.le_refl _, by rw [x.1]; exact Nat.le_refl _, by rw [x.2.1]; exact Nat.le_refl _, fun a _ ha _ => x.2.2 a ha⟩
theorem cl_F.cell {ck : cl_K} {E : Nat → pm_E} {A : List Nat} {n s : Nat} {h h_q : pm_H} (F : cl_F ck A n s h h_q) (G : cl_G ck E) {a : Nat} {x : pm_E} (ha : a ∉ A) (h72 : a < 72) (e : h.2.2 a = x) : h_q.2.2 a = x := by
  have hk : ck a = 0 := by
    by_cases z : ck a = 0
    · exact z
    · have := G.1 a z; omega
  exact (F.2.2.2.2 a (Nat.lt_of_lt_of_le h72 F.1) ha (by omega)).trans e
section CLT
variable {ck : cl_K} {E : Nat → pm_E} {m : Nat → Int32} {o : Nat → Option Nat} {h : pm_H}
theorem cl_T.lt (T : cl_T ck E m o h) {a : Nat} (ha : a < 72) : a < h.1 := Nat.lt_of_lt_of_le ha T.1
theorem cl_T.e16 (T : cl_T ck E m o h) : h.2.2 16 = .inr (11, cl_f16 o) := T.2.1
theorem cl_T.e17 (T : cl_T ck E m o h) : h.2.2 17 = .inr (8, cl_f17 m) := T.2.2.1
theorem cl_T.e25 (T : cl_T ck E m o h) : h.2.2 25 = .inr (6, cl_f25 m) := T.2.2.2.1
theorem cl_T.e30 (T : cl_T ck E m o h) : h.2.2 30 = .inr (7, cl_f30 m) := T.2.2.2.2.1
theorem cl_T.e31 (T : cl_T ck E m o h) : h.2.2 31 = .inr (2, [.ref 32]) := T.2.2.2.2.2.1
theorem cl_T.e33 (T : cl_T ck E m o h) : h.2.2 33 = .inr (9, cl_f33 m o) := T.2.2.2.2.2.2.1
theorem cl_T.B (T : cl_T ck E m o h) (k : Nat) : sf_B (cl_lo k) (cl_hi k) (m k) := T.2.2.2.2.2.2.2.1 k
theorem cl_T.C (T : cl_T ck E m o h) (a : Nat) (h1 : 16 ≤ a) (h2 : a < 41) : cl_C ck a (h.2.2 a) := T.2.2.2.2.2.2.2.2.1 a h1 h2
theorem cl_T.N (T : cl_T ck E m o h) : cl_N (h.2.2 19) (h.2.2 20) (h.2.2 21) (h.2.2 22) (h.2.2 23) := T.2.2.2.2.2.2.2.2.2.1
theorem cl_T.al (T : cl_T ck E m o h) {a k : Nat} (hk : ck a = k) (h0 : k ≠ 0) : a < h.1 := T.2.2.2.2.2.2.2.2.2.2.1 a (by rw [hk]; exact h0)
theorem cl_T.im (T : cl_T ck E m o h) {a k : Nat} {x : pm_E} (hk : ck a = k) (h1 : 1 ≤ k) (h2 : k ≤ 14) (e : E a = x) : h.2.2 a = x := (T.2.2.2.2.2.2.2.2.2.2.2.1 a (by rw [hk]; exact h1) (by rw [hk]; exact h2)).trans e
theorem cl_T.D (T : cl_T ck E m o h) : cl_D ck h := T.2.2.2.2.2.2.2.2.2.2.2.2.1
theorem cl_T.oo (T : cl_T ck E m o h) : (∀ b, o 0 = some b → ck b = 22) ∧ (∀ b, o 1 = some b → ck b = 1) ∧ (∀ b, o 2 = some b → ck b = 7) := T.2.2.2.2.2.2.2.2.2.2.2.2.2.1
theorem cl_T.old (T : cl_T ck E m o h) {a : Nat} (ha : a < 16) : h.2.2 a = E a := T.2.2.2.2.2.2.2.2.2.2.2.2.2.2 a ha
theorem cl_G.ge (G : cl_G ck E) {a k : Nat} (hk : ck a = k) (h0 : k ≠ 0) : 16 ≤ a := Nat.le_trans (by decide) (G.1 a (by rw [hk]; exact h0))
theorem cl_D.low {h_q : pm_H} (G : cl_G ck E) (D : cl_D ck h) (he : ∀ b, 72 ≤ b → h_q.2.2 b = h.2.2 b) : cl_D ck h_q := by
  have g : ∀ b, ck b ≠ 0 → h_q.2.2 b = h.2.2 b := fun b hb => he b (G.1 b hb)
  obtain ⟨d1, d2, d3, d4, d5, d6, d7, d8⟩ := D
  refine ⟨fun a ha => ?_, fun a ha => ?_, fun a ha => ?_, fun a ha => ?_, fun a ha => ?_, fun a ha => ?_, fun a ha => ?_, fun a ha => ?_⟩
  · obtain ⟨q1, q2, q3, q4, q5, q6⟩ := G.2.2.2.2.2.1 a ha
    have hx := d1 a ha
    rw [← g a (by omega), ← g (a + 1) (by omega), ← g (a + 2) (by omega), ← g (a + 3) (by omega), ← g (a + 4) (by omega), ← g (a + 5) (by omega), ← g (a + 6) (by omega)] at hx
    exact hx
  · rw [g a (by omega)]; exact d2 a ha
  · rw [g a (by omega)]; exact d3 a ha
  · rw [g a (by omega)]; exact d4 a ha
  · rw [g a (by omega)]; exact d5 a ha
  · rw [g a (by omega)]; exact d6 a ha
  · rw [g a (by omega)]; exact d7 a ha
  · rw [g a (by omega)]; exact d8 a ha
theorem cl_set_ne {h : pm_H} {a b : Nat} {x : pm_E} (hb : b ≠ a) : (pm_set h a x).2.2 b = h.2.2 b := by simp [pm_set, va_up, hb]
theorem cl_set_eq {h : pm_H} {a : Nat} {x : pm_E} : (pm_set h a x).2.2 a = x := by simp [pm_set, va_up]
/-- an array of the object is written that holds no references and no counts -/
theorem cl_T.arr (G : cl_G ck E) (T : cl_T ck E m o h) {a : Nat} {x : pm_E} (ha : a = 18 ∨ a = 26 ∨ a = 27 ∨ a = 28 ∨ a = 29 ∨ a = 32 ∨ a = 34 ∨ a = 35 ∨ a = 36 ∨ a = 38 ∨ a = 39 ∨ a = 40) (hx : cl_C ck a x) : cl_T ck E m o (pm_set h a x) := by
  refine ⟨T.1, by rw [cl_set_ne (by omega)]; exact T.e16, by rw [cl_set_ne (by omega)]; exact T.e17, by rw [cl_set_ne (by omega)]; exact T.e25, by rw [cl_set_ne (by omega)]; exact T.e30, by rw [cl_set_ne (by omega)]; exact T.e31, by rw [cl_set_ne (by omega)]; exact T.e33, T.B, fun b b1 b2 => ?_, ?_, T.2.2.2.2.2.2.2.2.2.2.1, fun b b1 b2 => ?_, cl_D.low G T.D (fun b hb => cl_set_ne (by omega)), T.oo, fun b hb => by rw [cl_set_ne (by omega)]; exact T.old hb⟩
  · by_cases hb : b = a
    · subst hb; rw [cl_set_eq]; exact hx
    · rw [cl_set_ne hb]; exact T.C b b1 b2
  · rw [cl_set_ne (by omega), cl_set_ne (by omega), cl_set_ne (by omega), cl_set_ne (by omega), cl_set_ne (by omega)]; exact T.N
  · have := G.1 b (by omega)
    rw [cl_set_ne (by omega)]
    exact T.2.2.2.2.2.2.2.2.2.2.2.1 b b1 b2
/-- a cell of which nothing is known is written -/
theorem cl_T.tmp (G : cl_G ck E) (T : cl_T ck E m o h) {a : Nat} {x : pm_E} (ha : 72 ≤ a) (hk : ck a = 0) : cl_T ck E m o (pm_set h a x) := by
  have g : ∀ b, ck b ≠ 0 → (pm_set h a x).2.2 b = h.2.2 b := fun b hb => cl_set_ne (fun e => hb (e ▸ hk))
  have D := T.D
  refine ⟨T.1, by rw [cl_set_ne (by omega)]; exact T.e16, by rw [cl_set_ne (by omega)]; exact T.e17, by rw [cl_set_ne (by omega)]; exact T.e25, by rw [cl_set_ne (by omega)]; exact T.e30, by rw [cl_set_ne (by omega)]; exact T.e31, by rw [cl_set_ne (by omega)]; exact T.e33, T.B, fun b b1 b2 => by rw [cl_set_ne (by omega)]; exact T.C b b1 b2, ?_, T.2.2.2.2.2.2.2.2.2.2.1, fun b b1 b2 => by rw [g b (by omega)]; exact T.2.2.2.2.2.2.2.2.2.2.2.1 b b1 b2, ?_, T.oo, fun b hb => by rw [cl_set_ne (by omega)]; exact T.old hb⟩
  · rw [cl_set_ne (by omega), cl_set_ne (by omega), cl_set_ne (by omega), cl_set_ne (by omega), cl_set_ne (by omega)]; exact T.N
  · obtain ⟨d1, d2, d3, d4, d5, d6, d7, d8⟩ := D
    refine ⟨fun a ha => ?_, fun a ha => ?_, fun a ha => ?_, fun a ha => ?_, fun a ha => ?_, fun a ha => ?_, fun a ha => ?_, fun a ha => ?_⟩
    · obtain ⟨q1, q2, q3, q4, q5, q6⟩ := G.2.2.2.2.2.1 a ha
      have hx := d1 a ha
      rw [← g a (by omega), ← g (a + 1) (by omega), ← g (a + 2) (by omega), ← g (a + 3) (by omega), ← g (a + 4) (by omega), ← g (a + 5) (by omega), ← g (a + 6) (by omega)] at hx
      exact hx
    · rw [g a (by omega)]; exact d2 a ha
    · rw [g a (by omega)]; exact d3 a ha
    · rw [g a (by omega)]; exact d4 a ha
    · rw [g a (by omega)]; exact d5 a ha
    · rw [g a (by omega)]; exact d6 a ha
    · rw [g a (by omega)]; exact d7 a ha
    · rw [g a (by omega)]; exact d8 a ha
/-- a number of one of its objects is written -/
theorem cl_T.put17 (G : cl_G ck E) (T : cl_T ck E m o h) {k : Nat} {x : Int32} {fs : List Value} (hb : sf_B (cl_lo k) (cl_hi k) x) (q0 : fs = cl_f17 (upd m k x)) (q25 : cl_f25 (upd m k x) = cl_f25 m) (q30 : cl_f30 (upd m k x) = cl_f30 m) (q33 : cl_f33 (upd m k x) o = cl_f33 m o) : cl_T ck E (upd m k x) o (pm_set h 17 (.inr (8, fs))) := by
  refine ⟨T.1, by rw [cl_set_ne (by omega)]; exact T.e16, by rw [cl_set_eq, q0], by rw [cl_set_ne (by omega), q25]; exact T.e25, by rw [cl_set_ne (by omega), q30]; exact T.e30, by rw [cl_set_ne (by omega)]; exact T.e31, by rw [cl_set_ne (by omega), q33]; exact T.e33, fun j => ?_, fun b b1 b2 => ?_, ?_, T.2.2.2.2.2.2.2.2.2.2.1, fun b b1 b2 => ?_, cl_D.low G T.D (fun b hb => cl_set_ne (by omega)), T.oo, fun b hb => by rw [cl_set_ne (by omega)]; exact T.old hb⟩
  · unfold upd; split
    · rename_i e; rw [e]; exact hb
    · exact T.B j
  · by_cases e : b = 17
    · subst e; exact trivial
    · rw [cl_set_ne e]; exact T.C b b1 b2
  · rw [cl_set_ne (by omega), cl_set_ne (by omega), cl_set_ne (by omega), cl_set_ne (by omega), cl_set_ne (by omega)]; exact T.N
  · have := G.1 b (by omega)
    rw [cl_set_ne (by omega)]; exact T.2.2.2.2.2.2.2.2.2.2.2.1 b b1 b2
theorem cl_T.put25 (G : cl_G ck E) (T : cl_T ck E m o h) {k : Nat} {x : Int32} {fs : List Value} (hb : sf_B (cl_lo k) (cl_hi k) x) (q0 : fs = cl_f25 (upd m k x)) (q17 : cl_f17 (upd m k x) = cl_f17 m) (q30 : cl_f30 (upd m k x) = cl_f30 m) (q33 : cl_f33 (upd m k x) o = cl_f33 m o) : cl_T ck E (upd m k x) o (pm_set h 25 (.inr (6, fs))) := by
  refine ⟨T.1, by rw [cl_set_ne (by omega)]; exact T.e16, by rw [cl_set_ne (by omega), q17]; exact T.e17, by rw [cl_set_eq, q0], by rw [cl_set_ne (by omega), q30]; exact T.e30, by rw [cl_set_ne (by omega)]; exact T.e31, by rw [cl_set_ne (by omega), q33]; exact T.e33, fun j => ?_, fun b b1 b2 => ?_, ?_, T.2.2.2.2.2.2.2.2.2.2.1, fun b b1 b2 => ?_, cl_D.low G T.D (fun b hb => cl_set_ne (by omega)), T.oo, fun b hb => by rw [cl_set_ne (by omega)]; exact T.old hb⟩
  · unfold upd; split
    · rename_i e; rw [e]; exact hb
    · exact T.B j
  · by_cases e : b = 25
    · subst e; exact trivial
    · rw [cl_set_ne e]; exact T.C b b1 b2
  · rw [cl_set_ne (by omega), cl_set_ne (by omega), cl_set_ne (by omega), cl_set_ne (by omega), cl_set_ne (by omega)]; exact T.N
  · have := G.1 b (by omega)
    rw [cl_set_ne (by omega)]; exact T.2.2.2.2.2.2.2.2.2.2.2.1 b b1 b2
theorem cl_T.put30 (G : cl_G ck E) (T : cl_T ck E m o h) {k : Nat} {x : Int32} {fs : List Value} (hb : sf_B (cl_lo k) (cl_hi k) x) (q0 : fs = cl_f30 (upd m k x)) (q17 : cl_f17 (upd m k x) = cl_f17 m) (q25 : cl_f25 (upd m k x) = cl_f25 m) (q33 : cl_f33 (upd m k x) o = cl_f33 m o) : cl_T ck E (upd m k x) o (pm_set h 30 (.inr (7, fs))) := by
  refine ⟨T.1, by rw [cl_set_ne (by omega)]; exact T.e16, by rw [cl_set_ne (by omega), q17]; exact T.e17, by rw [cl_set_ne (by omega), q25]; exact T.e25, by rw [cl_set_eq, q0], by rw [cl_set_ne (by omega)]; exact T.e31, by rw [cl_set_ne (by omega), q33]; exact T.e33, fun j => ?_, fun b b1 b2 => ?_, ?_, T.2.2.2.2.2.2.2.2.2.2.1, fun b b1 b2 => ?_, cl_D.low G T.D (fun b hb => cl_set_ne (by omega)), T.oo, fun b hb => by rw [cl_set_ne (by omega)]; exact T.old hb⟩
  · unfold upd; split
    · rename_i e; rw [e]; exact hb
    · exact T.B j
  · by_cases e : b = 30
    · subst e; exact trivial
    · rw [cl_set_ne e]; exact T.C b b1 b2
  · rw [cl_set_ne (by omega), cl_set_ne (by omega), cl_set_ne (by omega), cl_set_ne (by omega), cl_set_ne (by omega)]; exact T.N
  · have := G.1 b (by omega)
    rw [cl_set_ne (by omega)]; exact T.2.2.2.2.2.2.2.2.2.2.2.1 b b1 b2
theorem cl_T.put33 (G : cl_G ck E) (T : cl_T ck E m o h) {k : Nat} {x : Int32} {fs : List Value} (hb : sf_B (cl_lo k) (cl_hi k) x) (q0 : fs = cl_f33 (upd m k x) o) (q17 : cl_f17 (upd m k x) = cl_f17 m) (q25 : cl_f25 (upd m k x) = cl_f25 m) (q30 : cl_f30 (upd m k x) = cl_f30 m) : cl_T ck E (upd m k x) o (pm_set h 33 (.inr (9, fs))) := by
  refine ⟨T.1, by rw [cl_set_ne (by omega)]; exact T.e16, by rw [cl_set_ne (by omega), q17]; exact T.e17, by rw [cl_set_ne (by omega), q25]; exact T.e25, by rw [cl_set_ne (by omega), q30]; exact T.e30, by rw [cl_set_ne (by omega)]; exact T.e31, by rw [cl_set_eq, q0], fun j => ?_, fun b b1 b2 => ?_, ?_, T.2.2.2.2.2.2.2.2.2.2.1, fun b b1 b2 => ?_, cl_D.low G T.D (fun b hb => cl_set_ne (by omega)), T.oo, fun b hb => by rw [cl_set_ne (by omega)]; exact T.old hb⟩
  · unfold upd; split
    · rename_i e; rw [e]; exact hb
    · exact T.B j
  · by_cases e : b = 33
    · subst e; exact trivial
    · rw [cl_set_ne e]; exact T.C b b1 b2
  · rw [cl_set_ne (by omega), cl_set_ne (by omega), cl_set_ne (by omega), cl_set_ne (by omega), cl_set_ne (by omega)]; exact T.N
  · have := G.1 b (by omega)
    rw [cl_set_ne (by omega)]; exact T.2.2.2.2.2.2.2.2.2.2.2.1 b b1 b2
end CLT
theorem sf_ofT {n : Nat} (h : n ≤ 1000000) : (Int32.ofNat n).toInt = n := by
  rw [Int32.toInt_ofNat_of_lt (by omega)]
theorem sf_ofB {n k : Nat} (h : n ≤ k) (hk : k ≤ 1000000) : sf_B 0 k (Int32.ofNat n) := by
  unfold sf_B
  rw [sf_ofT (by omega)]
  omega
theorem sf_ofB1 {n k j : Nat} (h : n ≤ k) (hj : j ≤ n) (hk : k ≤ 1000000) : sf_B j k (Int32.ofNat n) := by
  unfold sf_B
  rw [sf_ofT (by omega)]
  omega
/-- a place in an array of fours -/
theorem cl_in4 {r j : Int32} {n : Nat} {c : Int} {a b : Int} (hn : n ≤ 1000) (p : r < Int32.ofNat n) (e : j.toInt = 4 * r.toInt + c) (B : sf_B a b r) (ha : 0 ≤ a) (hc : 0 ≤ c ∧ c ≤ 3) : pm_in j (4 * n) = true ∧ r.toInt.toNat < n ∧ j.toNatClampNeg = 4 * r.toInt.toNat + c.toNat := by
  have h1 := Int32.lt_iff_toInt_lt.mp p
  rw [sf_ofT (by omega)] at h1
  have h2 := B.1
  have e0 : j.toNatClampNeg = j.toInt.toNat := rfl
  refine ⟨sf_in (a := j.toInt) (b := j.toInt) ⟨Int.le_refl _, Int.le_refl _⟩ (by omega) (by omega), by omega, by rw [e0]; omega⟩
/-- a place in an array as long as a number -/
theorem cl_in1 {r : Int32} {n : Nat} {a b : Int} (hn : n ≤ 1000) (p : r < Int32.ofNat n) (B : sf_B a b r) (ha : 0 ≤ a) : pm_in r n = true ∧ r.toInt.toNat < n ∧ r.toNatClampNeg = r.toInt.toNat := by
  have h1 := Int32.lt_iff_toInt_lt.mp p
  rw [sf_ofT (by omega)] at h1
  have h2 := B.1
  refine ⟨sf_in (a := r.toInt) (b := r.toInt) ⟨Int.le_refl _, Int.le_refl _⟩ (by omega) (by omega), by omega, rfl⟩
theorem cl_c03 {x : Int32} {a b : Int} (B : sf_B a b x) (ha : 0 ≤ a) (hb : b ≤ 3) : 0 ≤ x.toInt ∧ x.toInt ≤ 3 := ⟨Int.le_trans ha B.1, Int.le_trans B.2 hb⟩
theorem cl_ltN {x : Int32} {n : Nat} (h : n ≤ 6) (p : x < Int32.ofNat n) : x.toInt < n := by
  have := Int32.lt_iff_toInt_lt.mp p
  rw [sf_ofT (by omega)] at this
  exact this
theorem cl_seat {x : Int32} {s : Nat} (h : 0 ≤ x.toInt ∧ x.toInt < s) (hs : s ≤ 6) : sf_B 0 5 x := by
  unfold sf_B; omega
theorem cl_inG {s n : Nat} {k w j z : Int32} {a b c e : Int} (hs : s ≤ 6) (hn : n ≤ 50) (e1 : j.toInt = z.toInt + w.toInt) (e2 : z.toInt = k.toInt * (Int32.ofNat s).toInt) (hk : k ≤ Int32.ofNat n) (hw : w.toInt < s) (Bk : sf_B a b k) (Bw : sf_B c e w) (ha : 0 ≤ a) (hc : 0 ≤ c) : pm_in j ((n + 1) * s) = true := by
  have h1 := Int32.le_iff_toInt_le.mp hk
  rw [sf_ofT (by omega)] at h1
  rw [sf_ofT (by omega)] at e2
  have h2 := Bk.1; have h3 := Bw.1
  have h4 : 0 ≤ k.toInt * (s : Int) := Int.mul_nonneg (by omega) (by omega)
  have h5 : k.toInt * (s : Int) ≤ n * s := Int.mul_le_mul_of_nonneg_right h1 (by omega)
  have h6 : (((n + 1) * s : Nat) : Int) = n * s + s := by rw [Int.natCast_mul, Int.natCast_add, Int.add_mul]; simp
  exact sf_in (a := j.toInt) (b := j.toInt) ⟨Int.le_refl _, Int.le_refl _⟩ (by omega) (by omega)
theorem cl_c3 {f : Nat → Int32} (b : ∀ j, sf_B 0 (if j = 1 then 3 else 2) (f j)) (j : Nat) : sf_B 0 3 (f j) := sf_weak (b j) (Int.le_refl 0) (by split <;> decide)
section THERE
variable {ck : cl_K} {E : Nat → pm_E} {m : Nat → Int32} {o : Nat → Option Nat} {h : pm_H} {c : Nat → Int32} {f : Nat → Option Nat} {j z : Int32} {a b : Int}
theorem cl_there0 (T : cl_T ck E m o h) (ec : h.2.2 23 = .inl (0, 4, .inl c)) (ef : h.2.2 19 = .inl (4, 2, .inr (.inr (.inr (.inr f))))) (ez : c (Int32.toNatClampNeg 0) = z) (p : j < z) (B : sf_B a b j) (ha : 0 ≤ a) : ∃ x, f (Int32.toNatClampNeg j) = some x := by
  have h1 := B.1
  have h2 := Int32.lt_iff_toInt_lt.mp p
  have e0 : c 0 = z := ez
  exact (T.N c ec).1 f ef _ (by rw [e0]; show (j.toInt.toNat : Int) < _; omega)
theorem cl_there1 (T : cl_T ck E m o h) (ec : h.2.2 23 = .inl (0, 4, .inl c)) (ef : h.2.2 20 = .inl (5, 3, .inr (.inr (.inr (.inr f))))) (ez : c (Int32.toNatClampNeg 1) = z) (p : j < z) (B : sf_B a b j) (ha : 0 ≤ a) : ∃ x, f (Int32.toNatClampNeg j) = some x := by
  have h1 := B.1
  have h2 := Int32.lt_iff_toInt_lt.mp p
  have e0 : c 1 = z := ez
  exact (T.N c ec).2.1 f ef _ (by rw [e0]; show (j.toInt.toNat : Int) < _; omega)
theorem cl_there2 (T : cl_T ck E m o h) (ec : h.2.2 23 = .inl (0, 4, .inl c)) (ef : h.2.2 21 = .inl (6, 2, .inr (.inr (.inr (.inr f))))) (ez : c (Int32.toNatClampNeg 2) = z) (p : j < z) (B : sf_B a b j) (ha : 0 ≤ a) : ∃ x, f (Int32.toNatClampNeg j) = some x := by
  have h1 := B.1
  have h2 := Int32.lt_iff_toInt_lt.mp p
  have e0 : c 2 = z := ez
  exact (T.N c ec).2.2.1 f ef _ (by rw [e0]; show (j.toInt.toNat : Int) < _; omega)
theorem cl_there3 (T : cl_T ck E m o h) (ec : h.2.2 23 = .inl (0, 4, .inl c)) (ef : h.2.2 22 = .inl (7, 2, .inr (.inr (.inr (.inr f))))) (ez : c (Int32.toNatClampNeg 3) = z) (p : j < z) (B : sf_B a b j) (ha : 0 ≤ a) : ∃ x, f (Int32.toNatClampNeg j) = some x := by
  have h1 := B.1
  have h2 := Int32.lt_iff_toInt_lt.mp p
  have e0 : c 3 = z := ez
  exact (T.N c ec).2.2.2 f ef _ (by rw [e0]; show (j.toInt.toNat : Int) < _; omega)
end THERE
section CLR
variable {d mid pc pc_q : Nat} {ls st : List Value} {h : pm_H} {Q : Option Value → pm_H → Prop} {q : pm_M} {l : List (Nat × Instr × Nat)} {L : Nat} {x y : Int32} {ck : cl_K} {E : Nat → pm_E} {m : Nat → Int32} {o : Nat → Option Nat}
theorem pm_R_tswD (hM : pm_Mt mid q l) {df lo hi : Int} {offs : Array Int} (hf : pm_find l pc = some (.tableswitch df lo hi offs, L)) (hx : x.toInt < lo ∨ hi < x.toInt) (ht : pm_to pc df = some pc_q) (k : pm_R d mid pc_q ls st h Q) : pm_R d mid pc ls (.int x :: st) h Q := by
  refine pm_R_br hM hf (st_q := st) ?_ k
  show (if x.toInt < lo ∨ hi < x.toInt then (pm_to pc df).map (fun t => (t, st)) else _) = _
  rw [if_pos hx, ht]
  rfl
theorem cl_R_ist (G : cl_G ck E) (hM : pm_Mt mid q l) (T : cl_T ck E m o h) {a n : Nat} {f : Nat → Int32} {j : Int32} (hf : pm_find l pc = some (.iastore, L)) (hc : h.2.2 a = .inl (0, n, .inl f)) (ha : a = 18 ∨ a = 26 ∨ a = 27 ∨ a = 28 ∨ a = 29 ∨ a = 32 ∨ a = 34 ∨ a = 35 ∨ a = 36 ∨ a = 38 ∨ a = 39 ∨ a = 40) (hC : cl_C ck a (.inl (0, n, .inl (upd f j.toNatClampNeg x)))) (hj : pm_in j n = true) (hp : pc + 1 = pc_q) (kk : ∀ h_q, cl_T ck E m o h_q → rf_G [a] h h_q → h_q.2.2 a = .inl (0, n, .inl (upd f j.toNatClampNeg x)) → pm_R d mid pc_q ls st h_q Q) : pm_R d mid pc ls (.int x :: .int j :: .ref a :: st) h Q :=
  pm_R_iast hM hf hc (by omega) (T.lt (by omega)) hj hp (kk _ (T.arr G ha hC) (rf_G.one _ _ _) cl_set_eq)
theorem cl_R_lst (G : cl_G ck E) (hM : pm_Mt mid q l) (T : cl_T ck E m o h) {a n : Nat} {f : Nat → Int64} {j : Int32} {x : Int64} (hf : pm_find l pc = some (.lastore, L)) (hc : h.2.2 a = .inl (1, n, .inr (.inl f))) (ha : a = 18 ∨ a = 26 ∨ a = 27 ∨ a = 28 ∨ a = 29 ∨ a = 32 ∨ a = 34 ∨ a = 35 ∨ a = 36 ∨ a = 38 ∨ a = 39 ∨ a = 40) (hC : cl_C ck a (.inl (1, n, .inr (.inl (vp_updL f j.toNatClampNeg x))))) (hj : pm_in j n = true) (hp : pc + 1 = pc_q) (kk : ∀ h_q, cl_T ck E m o h_q → rf_G [a] h h_q → h_q.2.2 a = .inl (1, n, .inr (.inl (vp_updL f j.toNatClampNeg x))) → pm_R d mid pc_q ls st h_q Q) : pm_R d mid pc ls (.long x :: .int j :: .ref a :: st) h Q :=
  pm_R_last hM hf hc (by omega) (T.lt (by omega)) hj hp (kk _ (T.arr G ha hC) (rf_G.one _ _ _) cl_set_eq)
theorem cl_R_bst (G : cl_G ck E) (hM : pm_Mt mid q l) (T : cl_T ck E m o h) {a n : Nat} {f : Nat → Int32} {j : Int32} (hf : pm_find l pc = some (.bastore, L)) (hc : h.2.2 a = .inl (2, n, .inl f)) (ha : a = 18 ∨ a = 26 ∨ a = 27 ∨ a = 28 ∨ a = 29 ∨ a = 32 ∨ a = 34 ∨ a = 35 ∨ a = 36 ∨ a = 38 ∨ a = 39 ∨ a = 40) (hC : cl_C ck a (.inl (2, n, .inl (upd f j.toNatClampNeg x.toInt8.toInt32)))) (hj : pm_in j n = true) (hp : pc + 1 = pc_q) (kk : ∀ h_q, cl_T ck E m o h_q → rf_G [a] h h_q → h_q.2.2 a = .inl (2, n, .inl (upd f j.toNatClampNeg x.toInt8.toInt32)) → pm_R d mid pc_q ls st h_q Q) : pm_R d mid pc ls (.int x :: .int j :: .ref a :: st) h Q :=
  pm_R_bast hM hf hc (by omega) (T.lt (by omega)) hj hp (kk _ (T.arr G ha hC) (rf_G.one _ _ _) cl_set_eq)
theorem cl_R_put17 (G : cl_G ck E) (hM : pm_Mt mid q l) (T : cl_T ck E m o h) {ix k j : Nat} {nb : Bool} {qq : vw_C} (hf : pm_find l pc = some (.putfield ix, L)) (hF : pm_at pm_FL q.2.2.2.2 ix = some (8, j, nb)) (hq : pm_cl[8]? = some qq) (hk : j < 9) (hv : pm_fits (pm_ty qq.2.1 j) (.int x) = true) (hfin : (qq.2.1 j).2.2.2 = false) (hb : sf_B (cl_lo k) (cl_hi k) x) (hs : (cl_f17 m).set j (.int x) = cl_f17 (upd m k x)) (q1 : cl_f25 (upd m k x) = cl_f25 m) (q2 : cl_f30 (upd m k x) = cl_f30 m) (q3 : cl_f33 (upd m k x) o = cl_f33 m o) (hp : pc + 3 = pc_q) (kk : ∀ h_q m_q, m_q = upd m k x → cl_T ck E m_q o h_q → rf_G [17] h h_q → pm_R d mid pc_q ls st h_q Q) : pm_R d mid pc ls (.int x :: .ref 17 :: st) h Q :=
  pm_R_put hM hf hF hq T.e17 (by decide) (T.lt (by decide)) hk hv (Or.inl hfin) hs hp (kk _ _ rfl (T.put17 G hb rfl q1 q2 q3) (rf_G.one _ _ _))
theorem cl_R_put25 (G : cl_G ck E) (hM : pm_Mt mid q l) (T : cl_T ck E m o h) {ix k j : Nat} {nb : Bool} {qq : vw_C} (hf : pm_find l pc = some (.putfield ix, L)) (hF : pm_at pm_FL q.2.2.2.2 ix = some (6, j, nb)) (hq : pm_cl[6]? = some qq) (hk : j < 11) (hv : pm_fits (pm_ty qq.2.1 j) (.int x) = true) (hfin : (qq.2.1 j).2.2.2 = false) (hb : sf_B (cl_lo k) (cl_hi k) x) (hs : (cl_f25 m).set j (.int x) = cl_f25 (upd m k x)) (q1 : cl_f17 (upd m k x) = cl_f17 m) (q2 : cl_f30 (upd m k x) = cl_f30 m) (q3 : cl_f33 (upd m k x) o = cl_f33 m o) (hp : pc + 3 = pc_q) (kk : ∀ h_q m_q, m_q = upd m k x → cl_T ck E m_q o h_q → rf_G [25] h h_q → pm_R d mid pc_q ls st h_q Q) : pm_R d mid pc ls (.int x :: .ref 25 :: st) h Q :=
  pm_R_put hM hf hF hq T.e25 (by decide) (T.lt (by decide)) hk hv (Or.inl hfin) hs hp (kk _ _ rfl (T.put25 G hb rfl q1 q2 q3) (rf_G.one _ _ _))
theorem cl_R_put30 (G : cl_G ck E) (hM : pm_Mt mid q l) (T : cl_T ck E m o h) {ix k j : Nat} {nb : Bool} {qq : vw_C} (hf : pm_find l pc = some (.putfield ix, L)) (hF : pm_at pm_FL q.2.2.2.2 ix = some (7, j, nb)) (hq : pm_cl[7]? = some qq) (hk : j < 6) (hv : pm_fits (pm_ty qq.2.1 j) (.int x) = true) (hfin : (qq.2.1 j).2.2.2 = false) (hb : sf_B (cl_lo k) (cl_hi k) x) (hs : (cl_f30 m).set j (.int x) = cl_f30 (upd m k x)) (q1 : cl_f17 (upd m k x) = cl_f17 m) (q2 : cl_f25 (upd m k x) = cl_f25 m) (q3 : cl_f33 (upd m k x) o = cl_f33 m o) (hp : pc + 3 = pc_q) (kk : ∀ h_q m_q, m_q = upd m k x → cl_T ck E m_q o h_q → rf_G [30] h h_q → pm_R d mid pc_q ls st h_q Q) : pm_R d mid pc ls (.int x :: .ref 30 :: st) h Q :=
  pm_R_put hM hf hF hq T.e30 (by decide) (T.lt (by decide)) hk hv (Or.inl hfin) hs hp (kk _ _ rfl (T.put30 G hb rfl q1 q2 q3) (rf_G.one _ _ _))
theorem cl_R_put33 (G : cl_G ck E) (hM : pm_Mt mid q l) (T : cl_T ck E m o h) {ix k j : Nat} {nb : Bool} {qq : vw_C} (hf : pm_find l pc = some (.putfield ix, L)) (hF : pm_at pm_FL q.2.2.2.2 ix = some (9, j, nb)) (hq : pm_cl[9]? = some qq) (hk : j < 7) (hv : pm_fits (pm_ty qq.2.1 j) (.int x) = true) (hfin : (qq.2.1 j).2.2.2 = false) (hb : sf_B (cl_lo k) (cl_hi k) x) (hs : (cl_f33 m o).set j (.int x) = cl_f33 (upd m k x) o) (q1 : cl_f17 (upd m k x) = cl_f17 m) (q2 : cl_f25 (upd m k x) = cl_f25 m) (q3 : cl_f30 (upd m k x) = cl_f30 m) (hp : pc + 3 = pc_q) (kk : ∀ h_q m_q, m_q = upd m k x → cl_T ck E m_q o h_q → rf_G [33] h h_q → pm_R d mid pc_q ls st h_q Q) : pm_R d mid pc ls (.int x :: .ref 33 :: st) h Q :=
  pm_R_put hM hf hF hq T.e33 (by decide) (T.lt (by decide)) hk hv (Or.inl hfin) hs hp (kk _ _ rfl (T.put33 G hb rfl q1 q2 q3) (rf_G.one _ _ _))
end CLR
theorem cl_gap {r : Int32} {a b : Int} (X : r = -1 ∨ 1 ≤ r.toInt) (p : ¬ r = -1) (B : sf_B a b r) : sf_B 1 b r := by
  rcases X with z | z
  · exact absurd z p
  · exact ⟨z, B.2⟩
theorem cl_rowN {E : Nat → pm_E} {r a b : Nat} {x y : Int32} (h1 : E r = .inr (5, [.int x, .ref a])) (h2 : E r = .inr (5, [.int y, .ref b])) : x = y := by
  rw [h1] at h2
  injection h2 with h2
  injection h2 with h3 h4
  injection h4 with h5 h6
  injection h5
section CLM
variable {d mid pc pc_q : Nat} {ls st : List Value} {h : pm_H} {Q : Option Value → pm_H → Prop} {q : pm_M} {l : List (Nat × Instr × Nat)} {L : Nat} {x y : Int32} {a b c e : Int}
theorem cl_R_max (hM : pm_Mt mid q l) {ix : Nat} (hf : pm_find l pc = some (.invokestatic ix, L)) (hn : pm_at pm_CL q.2.2.2.2 ix = none) (hX : pm_at pm_XL q.2.2.2.2 ix = some 4) (hs : (st.map fun v => v.category).sum ≤ 8) (hp : pc + 3 = pc_q) (hx : sf_B a b x) (hy : sf_B c e y) (kk : ∀ z : Int32, sf_B (max a c) (max b e) z → pm_R d mid pc_q ls (.int z :: st) h Q) : pm_R d mid pc ls (.int y :: .int x :: st) h Q := by
  have h1 := hx.1; have h2 := hx.2; have h3 := hy.1; have h4 := hy.2
  refine pm_R_nat hM hf rfl hn (st_q := .int (if x < y then y else x) :: st) (h_q := h) ?_ hp (kk _ ?_)
  · show (pm_at pm_XL _ ix).bind _ = _
    rw [hX]
    show (if _ then _ else _) = _
    rw [if_pos hs]
  · by_cases hc : x < y
    · rw [if_pos hc]
      have := Int32.lt_iff_toInt_lt.mp hc
      unfold sf_B; omega
    · rw [if_neg hc]
      have := Int32.le_iff_toInt_le.mp (Int32.not_lt.mp hc)
      unfold sf_B; omega
theorem cl_R_min (hM : pm_Mt mid q l) {ix : Nat} (hf : pm_find l pc = some (.invokestatic ix, L)) (hn : pm_at pm_CL q.2.2.2.2 ix = none) (hX : pm_at pm_XL q.2.2.2.2 ix = some 3) (hs : (st.map fun v => v.category).sum ≤ 8) (hp : pc + 3 = pc_q) (hx : sf_B a b x) (hy : sf_B c e y) (kk : ∀ z : Int32, sf_B (min a c) (min b e) z → pm_R d mid pc_q ls (.int z :: st) h Q) : pm_R d mid pc ls (.int y :: .int x :: st) h Q := by
  have h1 := hx.1; have h2 := hx.2; have h3 := hy.1; have h4 := hy.2
  refine pm_R_nat hM hf rfl hn (st_q := .int (if y < x then y else x) :: st) (h_q := h) ?_ hp (kk _ ?_)
  · show (pm_at pm_XL _ ix).bind _ = _
    rw [hX]
    show (if _ then _ else _) = _
    rw [if_pos hs]
  · by_cases hc : y < x
    · rw [if_pos hc]
      have := Int32.lt_iff_toInt_lt.mp hc
      unfold sf_B; omega
    · rw [if_neg hc]
      have := Int32.le_iff_toInt_le.mp (Int32.not_lt.mp hc)
      unfold sf_B; omega
theorem cl_R_minl (hM : pm_Mt mid q l) {ix : Nat} {x y : Int64} (hf : pm_find l pc = some (.invokestatic ix, L)) (hn : pm_at pm_CL q.2.2.2.2 ix = none) (hX : pm_at pm_XL q.2.2.2.2 ix = some 5) (hs : (st.map fun v => v.category).sum ≤ 8) (hp : pc + 3 = pc_q) (kk : ∀ z : Int64, pm_R d mid pc_q ls (.long z :: st) h Q) : pm_R d mid pc ls (.long y :: .long x :: st) h Q := by
  refine pm_R_nat hM hf rfl hn (st_q := .long (if y < x then y else x) :: st) (h_q := h) ?_ hp (kk _)
  show (pm_at pm_XL _ ix).bind _ = _
  rw [hX]
  show (if _ then _ else _) = _
  rw [if_pos hs]
end CLM
theorem cl_ok1 {ck : cl_K} {E : Nat → pm_E} {m : Nat → Int32} {o : Nat → Option Nat} {h : pm_H} {a : Nat} (T : cl_T ck E m o h) (hk : ck a = 1) : (∀ b, va_up o 1 (some a) 0 = some b → ck b = 22) ∧ (∀ b, va_up o 1 (some a) 1 = some b → ck b = 1) ∧ (∀ b, va_up o 1 (some a) 2 = some b → ck b = 7) := ⟨T.oo.1, fun b hb => by cases hb; exact hk, T.oo.2.2⟩
theorem cl_ok2 {ck : cl_K} {E : Nat → pm_E} {m : Nat → Int32} {o : Nat → Option Nat} {h : pm_H} {a : Nat} (T : cl_T ck E m o h) (hk : ck a = 7) : (∀ b, va_up o 2 (some a) 0 = some b → ck b = 22) ∧ (∀ b, va_up o 2 (some a) 1 = some b → ck b = 1) ∧ (∀ b, va_up o 2 (some a) 2 = some b → ck b = 7) := ⟨T.oo.1, T.oo.2.1, fun b hb => by cases hb; exact hk⟩
theorem cl_og1 {ck : cl_K} {E : Nat → pm_E} {m : Nat → Int32} {o : Nat → Option Nat} {h : pm_H} (G : cl_G ck E) (T : cl_T ck E m o h) : ∀ b, o 1 = some b → 16 ≤ b := fun b hb => G.ge (T.oo.2.1 b hb) (by decide)
theorem cl_og2 {ck : cl_K} {E : Nat → pm_E} {m : Nat → Int32} {o : Nat → Option Nat} {h : pm_H} (G : cl_G ck E) (T : cl_T ck E m o h) : ∀ b, o 2 = some b → 16 ≤ b := fun b hb => G.ge (T.oo.2.2 b hb) (by decide)
theorem cl_T.puto33 {ck : cl_K} {E : Nat → pm_E} {m : Nat → Int32} {o o_q : Nat → Option Nat} {h : pm_H} (G : cl_G ck E) (T : cl_T ck E m o h) {fs : List Value} (q0 : fs = cl_f33 m o_q) (h0 : o_q 0 = o 0) (hO : (∀ b, o_q 0 = some b → ck b = 22) ∧ (∀ b, o_q 1 = some b → ck b = 1) ∧ (∀ b, o_q 2 = some b → ck b = 7)) : cl_T ck E m o_q (pm_set h 33 (.inr (9, fs))) := by
  have q16 : cl_f16 o_q = cl_f16 o := by unfold cl_f16; rw [h0]
  refine ⟨T.1, by rw [cl_set_ne (by omega), q16]; exact T.e16, by rw [cl_set_ne (by omega)]; exact T.e17, by rw [cl_set_ne (by omega)]; exact T.e25, by rw [cl_set_ne (by omega)]; exact T.e30, by rw [cl_set_ne (by omega)]; exact T.e31, by rw [cl_set_eq, q0], T.B, fun b b1 b2 => ?_, ?_, T.2.2.2.2.2.2.2.2.2.2.1, fun b b1 b2 => ?_, cl_D.low G T.D (fun b hb => cl_set_ne (by omega)), hO, fun b hb => by rw [cl_set_ne (by omega)]; exact T.old hb⟩
  · by_cases e : b = 33
    · subst e; exact trivial
    · rw [cl_set_ne e]; exact T.C b b1 b2
  · rw [cl_set_ne (by omega), cl_set_ne (by omega), cl_set_ne (by omega), cl_set_ne (by omega), cl_set_ne (by omega)]; exact T.N
  · have := G.1 b (by omega)
    rw [cl_set_ne (by omega)]; exact T.2.2.2.2.2.2.2.2.2.2.2.1 b b1 b2
section CLO
variable {d mid pc pc_q : Nat} {ls st : List Value} {h : pm_H} {Q : Option Value → pm_H → Prop} {q : pm_M} {l : List (Nat × Instr × Nat)} {L : Nat} {ck : cl_K} {E : Nat → pm_E} {m : Nat → Int32} {o : Nat → Option Nat}
theorem cl_R_puto33 (G : cl_G ck E) (hM : pm_Mt mid q l) (T : cl_T ck E m o h) {ix k j a : Nat} {nb : Bool} {qq : vw_C} (hf : pm_find l pc = some (.putfield ix, L)) (hF : pm_at pm_FL q.2.2.2.2 ix = some (9, j, nb)) (hq : pm_cl[9]? = some qq) (hk : j < 7) (hv : pm_fits (pm_ty qq.2.1 j) (.ref a) = true) (hfin : (qq.2.1 j).2.2.2 = false) (hO : (∀ b, va_up o k (some a) 0 = some b → ck b = 22) ∧ (∀ b, va_up o k (some a) 1 = some b → ck b = 1) ∧ (∀ b, va_up o k (some a) 2 = some b → ck b = 7)) (hs : (cl_f33 m o).set j (.ref a) = cl_f33 m (va_up o k (some a))) (h0 : va_up o k (some a) 0 = o 0) (hp : pc + 3 = pc_q) (kk : ∀ h_q o_q, o_q = va_up o k (some a) → cl_T ck E m o_q h_q → rf_G [33] h h_q → pm_R d mid pc_q ls st h_q Q) : pm_R d mid pc ls (.ref a :: .ref 33 :: st) h Q :=
  pm_R_put hM hf hF hq T.e33 (by decide) (T.lt (by decide)) hk hv (Or.inl hfin) hs hp (kk _ _ rfl (T.puto33 G rfl h0 hO) (rf_G.one _ _ _))
theorem cl_R_acmp (hM : pm_Mt mid q l) {off : Int} {x : Option Nat} {a t : Nat} (hf : pm_find l pc = some (.if_acmp .ne off, L)) (ht : pm_to pc off = some t) (hp : pc + 3 = pc_q) (ha : 16 ≤ a) (hx : ∀ b, x = some b → 16 ≤ b) (kt : ¬ x = some a → pm_R d mid t ls st h Q) (kf : x = some a → pm_R d mid pc_q ls st h Q) : pm_R d mid pc ls (.ref a :: va_rf x :: st) h Q := by
  subst hp
  have e1 : pm_ref (.ref a) = some (some a) := by show (if 16 ≤ a then some (some a) else none) = _; rw [if_pos ha]
  have e2 : pm_ref (va_rf x) = some x := by
    cases x with
    | none => rfl
    | some b => show (if 16 ≤ b then some (some b) else none) = _; rw [if_pos (hx b rfl)]
  have e : pm_br (.if_acmp .ne off) pc (.ref a :: va_rf x :: st) = pm_if (¬ x = some a) inferInstance pc off st := by
    show (pm_ref (.ref a)).bind (fun b => (pm_ref (va_rf x)).bind (fun a => pm_if (¬ a = b) inferInstance pc off st)) = _
    rw [e1, e2]
    rfl
  have e3 : pm_if (¬ x = some a) inferInstance pc off st = some (if ¬ x = some a then t else pc + 3, st) := by
    unfold pm_if
    rw [ht]
    rfl
  refine pm_R_br hM hf (e.trans e3) ?_
  by_cases hc : x = some a
  · rw [if_neg (fun z => z hc)]; exact kf hc
  · rw [if_pos hc]; exact kt hc
end CLO
theorem sf_subN {x y z : Int32} {a b : Int} (e : z.toInt = x.toInt - y.toInt) (p : x < y) (B : sf_B a b z) : sf_B a (-1) z := by
  have := Int32.lt_iff_toInt_lt.mp p
  have := B.1
  unfold sf_B; omega
theorem sf_subP {x y z : Int32} {a b : Int} (e : z.toInt = x.toInt - y.toInt) (p : y ≤ x) (B : sf_B a b z) : sf_B 0 b z := by
  have := Int32.le_iff_toInt_le.mp p
  have := B.2
  unfold sf_B; omega
theorem cl_getD {l : List Int32} {lo hi : Int} (h : ∀ x ∈ l, lo ≤ x.toInt ∧ x.toInt ≤ hi) (h0 : lo ≤ 0) (h1 : 0 ≤ hi) (j : Nat) : sf_B lo hi (l.getD j 0) := by
  have e0 : (0 : Int32).toInt = 0 := rfl
  rw [List.getD_eq_getElem?_getD]
  cases hq : l[j]? with
  | none => exact ⟨by show lo ≤ (0 : Int32).toInt; omega, by show (0 : Int32).toInt ≤ hi; omega⟩
  | some x => exact h x (List.mem_of_getElem? hq)
theorem cl_sv1 (j : Nat) : sf_B 0 3 (pm_sv1.getD j 0) := cl_getD (by decide) (by decide) (by decide) j
theorem cl_sv2 (j : Nat) : sf_B 0 3 (pm_sv2.getD j 0) := cl_getD (by decide) (by decide) (by decide) j
theorem cl_sv3 (j : Nat) : sf_B 0 49 (pm_sv3.getD j 0) := cl_getD (by decide) (by decide) (by decide) j
theorem cl_sv4 (j : Nat) : sf_B 0 50 (pm_sv4.getD j 0) := cl_getD (by decide) (by decide) (by decide) j
theorem cl_sv5 (j : Nat) : sf_B 0 10000 (pm_sv5.getD j 0) := cl_getD (by decide) (by decide) (by decide) j
theorem cl_sv6 (j : Nat) : sf_B 0 1110 (pm_sv6.getD j 0) := cl_getD (by decide) (by decide) (by decide) j
section CLTB
variable {ck : cl_K} {E : Nat → pm_E}
theorem cl_G.S (G : cl_G ck E) : cl_S E := G.2.2.2.2.2.2.2.2
theorem cl_G.tb1 (G : cl_G ck E) : E 1 = .inl (0, 4, .inl (fun j => pm_sv1.getD j 0)) := G.S.1
theorem cl_G.tb2 (G : cl_G ck E) : E 2 = .inl (0, 13, .inl (fun j => pm_sv2.getD j 0)) := G.S.2.1
theorem cl_G.tb3 (G : cl_G ck E) : E 3 = .inl (0, 39, .inl (fun j => pm_sv3.getD j 0)) := G.S.2.2.1
theorem cl_G.tb4 (G : cl_G ck E) : E 4 = .inl (0, 13, .inl (fun j => pm_sv4.getD j 0)) := G.S.2.2.2.1
theorem cl_G.tb5 (G : cl_G ck E) : E 5 = .inl (0, 5, .inl (fun j => pm_sv5.getD j 0)) := G.S.2.2.2.2.1
theorem cl_G.tb6 (G : cl_G ck E) : E 6 = .inl (0, 5, .inl (fun j => pm_sv6.getD j 0)) := G.S.2.2.2.2.2.1
end CLTB
/-- an array that a method makes for itself -/
def cl_t (ck : cl_K) (t : Nat) (h : pm_H) : Prop := 72 ≤ t ∧ ck t = 0 ∧ t < h.1
theorem cl_t.F {ck : cl_K} {t : Nat} {A : List Nat} {n s : Nat} {h h_q : pm_H} (x : cl_t ck t h) (F : cl_F ck A n s h h_q) : cl_t ck t h_q := ⟨x.1, x.2.1, Nat.lt_of_lt_of_le x.2.2 F.2.1⟩
theorem cl_F.tmp {ck : cl_K} {t : Nat} {A : List Nat} {n s : Nat} {h h_q : pm_H} {x : pm_E} (F : cl_F ck A n s h h_q) (ht : cl_t ck t h) (hA : t ∉ A) (e : h.2.2 t = x) : h_q.2.2 t = x := (F.2.2.2.2 t ht.2.2 hA (by rw [ht.2.1]; decide)).trans e
theorem cl_tA {ck : cl_K} {t : Nat} {A : List Nat} {h : pm_H} (ht : cl_t ck t h) (hA : ∀ k ∈ A, k < 72) : t ∉ A := fun z => by have := hA t z; have := ht.1; omega
theorem cl_nin1 {t u : Nat} (h : t ≠ u) : t ∉ [u] := fun z => h (List.mem_singleton.mp z)
theorem cl_F.transT {ck : cl_K} {A : List Nat} {n s : Nat} {u : Nat} {h h1 h2 : pm_H} (x : cl_F ck A n s h h1) (y : cl_F ck [u] 0 0 h1 h2) (hu : h.1 ≤ u) : cl_F ck A n s h h2 := by
  obtain ⟨x0, x1, x2, x3, x4⟩ := x
  obtain ⟨y0, y1, y2, y3, y4⟩ := y
  exact ⟨x0, by omega, by omega, by omega, fun a a1 a2 a3 => (y4 a (by omega) (fun z => by have := List.mem_singleton.mp z; omega) a3).trans (x4 a a1 a2 a3)⟩
theorem cl_T.push {ck : cl_K} {E : Nat → pm_E} {m : Nat → Int32} {o : Nat → Option Nat} {h : pm_H} (G : cl_G ck E) (T : cl_T ck E m o h) (c : pm_E) (k : Nat) : cl_T ck E m o (pm_push h c k) := by
  have g : ∀ b, b < h.1 → (pm_push h c k).2.2 b = h.2.2 b := fun b hb => by
    have : b ≠ h.1 := by omega
    simp [pm_push, va_up, this]
  have h72 := T.1
  have gk : ∀ b, ck b ≠ 0 → (pm_push h c k).2.2 b = h.2.2 b := fun b hb => g b (T.al rfl hb)
  have D := T.D
  refine ⟨Nat.le_succ_of_le T.1, by rw [g 16 (by omega)]; exact T.e16, by rw [g 17 (by omega)]; exact T.e17, by rw [g 25 (by omega)]; exact T.e25, by rw [g 30 (by omega)]; exact T.e30, by rw [g 31 (by omega)]; exact T.e31, by rw [g 33 (by omega)]; exact T.e33, T.B, fun b b1 b2 => by rw [g b (by omega)]; exact T.C b b1 b2, ?_, fun b hb => Nat.lt_succ_of_lt (T.al rfl hb), fun b b1 b2 => by rw [gk b (by omega)]; exact T.im rfl b1 b2 rfl, ?_, T.oo, fun b hb => by rw [g b (by omega)]; exact T.old hb⟩
  · rw [g 19 (by omega), g 20 (by omega), g 21 (by omega), g 22 (by omega), g 23 (by omega)]; exact T.N
  · obtain ⟨d1, d2, d3, d4, d5, d6, d7, d8⟩ := D
    refine ⟨fun a ha => ?_, fun a ha => ?_, fun a ha => ?_, fun a ha => ?_, fun a ha => ?_, fun a ha => ?_, fun a ha => ?_, fun a ha => ?_⟩
    · obtain ⟨q1, q2, q3, q4, q5, q6⟩ := G.2.2.2.2.2.1 a ha
      have hx := d1 a ha
      rw [← gk a (by omega), ← gk (a + 1) (by omega), ← gk (a + 2) (by omega), ← gk (a + 3) (by omega), ← gk (a + 4) (by omega), ← gk (a + 5) (by omega), ← gk (a + 6) (by omega)] at hx
      exact hx
    · rw [gk a (by omega)]; exact d2 a ha
    · rw [gk a (by omega)]; exact d3 a ha
    · rw [gk a (by omega)]; exact d4 a ha
    · rw [gk a (by omega)]; exact d5 a ha
    · rw [gk a (by omega)]; exact d6 a ha
    · rw [gk a (by omega)]; exact d7 a ha
    · rw [gk a (by omega)]; exact d8 a ha
section CLTM
variable {d mid pc pc_q : Nat} {ls st : List Value} {h : pm_H} {Q : Option Value → pm_H → Prop} {q : pm_M} {l : List (Nat × Instr × Nat)} {L : Nat} {x : Int32} {ck : cl_K} {E : Nat → pm_E} {m : Nat → Int32} {o : Nat → Option Nat}
theorem cl_R_newa (G : cl_G ck E) (hM : pm_Mt mid q l) (T : cl_T ck E m o h) {N : Nat} {n : Int32} (hf : pm_find l pc = some (.newarray .int, L)) (hn : ¬ n < 0) (hN : n.toNatClampNeg = N) (hb : N ≤ 67108864) (hp : pc + 2 = pc_q) (kk : ∀ t h_q, cl_T ck E m o h_q → cl_F ck [] 1 N h h_q → cl_t ck t h_q → h.1 = t → h_q.2.2 t = .inl (0, N, .inl (fun _ => (0 : Int32))) → pm_R d mid pc_q ls (.ref t :: st) h_q Q) : pm_R d mid pc ls (.int n :: st) h Q := by
  have h72 := T.1
  refine pm_R_newa hM hf rfl hn hN hb hp (kk h.1 _ (T.push G _ _) ⟨h72, Nat.le_succ _, Nat.le_refl _, Nat.le_refl _, fun a ha _ _ => ?_⟩ ⟨h72, ?_, Nat.lt_succ_self _⟩ rfl ?_)
  · have : a ≠ h.1 := by omega
    simp [pm_push, va_up, this]
  · by_cases z : ck h.1 = 0
    · exact z
    · have := T.al rfl z; omega
  · simp [pm_push, va_up, pm_newty]
theorem cl_R_tst (G : cl_G ck E) (hM : pm_Mt mid q l) (T : cl_T ck E m o h) {t n : Nat} {f : Nat → Int32} {j : Int32} (hf : pm_find l pc = some (.iastore, L)) (hc : h.2.2 t = .inl (0, n, .inl f)) (ht : cl_t ck t h) (hj : pm_in j n = true) (hp : pc + 1 = pc_q) (kk : ∀ h_q, cl_T ck E m o h_q → cl_F ck [t] 0 0 h h_q → h_q.2.2 t = .inl (0, n, .inl (upd f j.toNatClampNeg x)) → pm_R d mid pc_q ls st h_q Q) : pm_R d mid pc ls (.int x :: .int j :: .ref t :: st) h Q :=
  pm_R_iast hM hf hc (Nat.le_trans (by decide) ht.1) ht.2.2 hj hp (kk _ (T.tmp G ht.1 ht.2.1) ((rf_G.one _ _ _).cl T.1) cl_set_eq)
end CLTM
theorem cl_tne {ck : cl_K} {t u : Nat} {h h_q : pm_H} (x : cl_t ck t h) (hu : h.1 = u) : t ≠ u := by have := x.2.2; omega
theorem cl_sign {fd : Nat → Int32} {k j0 j2 : Nat} {z0 z2 : Int32} {a b : Int} (hc : (fd (4 * k)).toInt = 2 → 0 ≤ (fd (4 * k + 2)).toInt) (h0 : j0 = 4 * k + 0) (e0 : fd j0 = z0) (p : z0 = 2) (h2 : j2 = 4 * k + 2) (e2 : fd j2 = z2) (B : sf_B a b z2) (hb : b ≤ 9) : sf_B 0 9 z2 := by
  subst h0; subst h2
  have e3 : fd (4 * k) = z0 := e0
  have := hc (by rw [e3, p]; rfl)
  rw [e2] at this
  have := B.2
  unfold sf_B; omega
end
section
/-! charts that are made when first asked for: the chart of ways -/
theorem cl_G.w23 {ck : cl_K} {E : Nat → pm_E} (G : cl_G ck E) {b : Nat} (hk : ck b = 22) : ck (b + 1) = 23 := G.2.2.2.2.2.2.1 b hk
/-- a cell of a chart is written, and what it holds is of its kind -/
theorem cl_T.mut {ck : cl_K} {E : Nat → pm_E} {m : Nat → Int32} {o : Nat → Option Nat} {h : pm_H} (G : cl_G ck E) (T : cl_T ck E m o h) {a k : Nat} {x : pm_E} (hk : ck a = k) (h15 : 15 ≤ k) (hD : cl_D ck (pm_set h a x)) : cl_T ck E m o (pm_set h a x) := by
  have ha : 72 ≤ a := G.1 a (by omega)
  refine ⟨T.1, by rw [cl_set_ne (by omega)]; exact T.e16, by rw [cl_set_ne (by omega)]; exact T.e17, by rw [cl_set_ne (by omega)]; exact T.e25, by rw [cl_set_ne (by omega)]; exact T.e30, by rw [cl_set_ne (by omega)]; exact T.e31, by rw [cl_set_ne (by omega)]; exact T.e33, T.B, fun b b1 b2 => by rw [cl_set_ne (by omega)]; exact T.C b b1 b2, ?_, T.2.2.2.2.2.2.2.2.2.2.1, fun b b1 b2 => ?_, hD, T.oo, fun b hb => by rw [cl_set_ne (by omega)]; exact T.old hb⟩
  · rw [cl_set_ne (by omega), cl_set_ne (by omega), cl_set_ne (by omega), cl_set_ne (by omega), cl_set_ne (by omega)]; exact T.N
  · have : b ≠ a := fun e => by subst e; omega
    rw [cl_set_ne this]; exact T.im rfl b1 b2 rfl
/-- all of cl_D but what lies in a chart's own cell -/
theorem cl_D.keep {ck : cl_K} {E : Nat → pm_E} {h : pm_H} (G : cl_G ck E) (D : cl_D ck h) {a k : Nat} {x : pm_E} (hk : ck a = k) (h22 : 22 ≤ k) (n22 : k = 22 → ∃ l r : Option Nat, x = .inr (10, [.ref (a + 1), va_rf l, va_rf r]) ∧ (∀ b, l = some b → ck b = 1) ∧ (∀ b, r = some b → ck b = 7)) (n23 : k = 23 → ∃ f, x = .inl (1, 23400, .inr (.inl f))) (n24 : k = 24 → ∃ (l : Option Nat) (fi av ah an : Int32), sf_B 0 4 fi ∧ sf_B (-1) 11109 an ∧ x = .inr (3, [.ref (a + 1), .ref (a + 2), .ref (a + 3), .ref (a + 4), va_rf l, .int fi, .int av, .int ah, .int an]) ∧ ∀ b, l = some b → ck b = 1) (n25 : k = 25 → ∃ f, x = .inl (0, 15, .inl f)) (n26 : k = 26 → ∃ f, x = .inl (1, 6666, .inr (.inl f))) (n27 : k = 27 → ∃ f, x = .inl (0, 6666, .inl f)) (n28 : k = 28 → ∃ f, x = .inl (2, 11110, .inl f)) : cl_D ck (pm_set h a x) := by
  have g : ∀ b, b ≠ a → (pm_set h a x).2.2 b = h.2.2 b := fun b hb => cl_set_ne hb
  have ga : (pm_set h a x).2.2 a = x := cl_set_eq
  obtain ⟨d1, d2, d3, d4, d5, d6, d7, d8⟩ := D
  refine ⟨fun b hb => ?_, fun b hb => ?_, fun b hb => ?_, fun b hb => ?_, fun b hb => ?_, fun b hb => ?_, fun b hb => ?_, fun b hb => ?_⟩
  · obtain ⟨q1, q2, q3, q4, q5, q6⟩ := G.2.2.2.2.2.1 b hb
    have hx := d1 b hb
    have r : ∀ c, ck c < 22 → (pm_set h a x).2.2 c = h.2.2 c := fun c hc => g c (fun e => by subst e; omega)
    rw [← r b (by omega), ← r (b + 1) (by omega), ← r (b + 2) (by omega), ← r (b + 3) (by omega), ← r (b + 4) (by omega), ← r (b + 5) (by omega), ← r (b + 6) (by omega)] at hx
    exact hx
  · by_cases e : b = a
    · subst e; rw [ga]; exact n22 (by omega)
    · rw [g b e]; exact d2 b hb
  · by_cases e : b = a
    · subst e; rw [ga]; exact n23 (by omega)
    · rw [g b e]; exact d3 b hb
  · by_cases e : b = a
    · subst e; rw [ga]; exact n24 (by omega)
    · rw [g b e]; exact d4 b hb
  · by_cases e : b = a
    · subst e; rw [ga]; exact n25 (by omega)
    · rw [g b e]; exact d5 b hb
  · by_cases e : b = a
    · subst e; rw [ga]; exact n26 (by omega)
    · rw [g b e]; exact d6 b hb
  · by_cases e : b = a
    · subst e; rw [ga]; exact n27 (by omega)
    · rw [g b e]; exact d7 b hb
  · by_cases e : b = a
    · subst e; rw [ga]; exact n28 (by omega)
    · rw [g b e]; exact d8 b hb
theorem rf_G.mut {ck : cl_K} {a k : Nat} {h h_q : pm_H} (x : rf_G [a] h h_q) (h72 : 72 ≤ h.1) (hk : ck a = k) (h15 : 22 ≤ k) : cl_F ck [] 0 0 h h_q := ⟨h72, by rw [x.1]; exact Nat.le_refl _, by rw [x.1]; exact Nat.le_refl _, by rw [x.2.1]; exact Nat.le_refl _, fun b _ _ hb => x.2.2 b (fun z => by have := List.mem_singleton.mp z; subst this; omega)⟩
section CLW
variable {d mid pc pc_q : Nat} {ls st : List Value} {h : pm_H} {Q : Option Value → pm_H → Prop} {q : pm_M} {l_q : List (Nat × Instr × Nat)} {L : Nat} {ck : cl_K} {E : Nat → pm_E} {m : Nat → Int32} {o : Nat → Option Nat}
theorem cl_R_wst (G : cl_G ck E) (hM : pm_Mt mid q l_q) (T : cl_T ck E m o h) {b : Nat} {f : Nat → Int64} {j : Int32} {x : Int64} (hf : pm_find l_q pc = some (.lastore, L)) (hk : ck b = 22) (hc : h.2.2 (b + 1) = .inl (1, 23400, .inr (.inl f))) (hj : pm_in j 23400 = true) (hp : pc + 1 = pc_q) (kk : ∀ h_q, cl_T ck E m o h_q → cl_F ck [] 0 0 h h_q → h_q.2.2 b = h.2.2 b → pm_R d mid pc_q ls st h_q Q) : pm_R d mid pc ls (.long x :: .int j :: .ref (b + 1) :: st) h Q := by
  have k23 := G.w23 hk
  refine pm_R_last hM hf hc (G.ge k23 (by decide)) (T.al k23 (by decide)) hj hp (kk _ (T.mut G k23 (by decide) (T.D.keep G k23 (by decide) (fun z => absurd z (by decide)) (fun _ => ⟨_, rfl⟩) (fun z => absurd z (by decide)) (fun z => absurd z (by decide)) (fun z => absurd z (by decide)) (fun z => absurd z (by decide)) (fun z => absurd z (by decide)))) ((rf_G.one _ _ _).mut T.1 k23 (by decide)) (cl_set_ne (by omega)))
theorem cl_R_wput1 (G : cl_G ck E) (hM : pm_Mt mid q l_q) (T : cl_T ck E m o h) {ix b a : Nat} {nb : Bool} {qq : vw_C} {l r l0 : Option Nat} (hf : pm_find l_q pc = some (.putfield ix, L)) (hF : pm_at pm_FL q.2.2.2.2 ix = some (10, 1, nb)) (hq : pm_cl[10]? = some qq) (h3 : 1 < 3) (hv : pm_fits (pm_ty qq.2.1 1) (.ref a) = true) (hfin : (qq.2.1 1).2.2.2 = false) (hk : ck b = 22) (hc : h.2.2 b = .inr (10, [.ref (b + 1), va_rf l0, va_rf r])) (kl : ∀ z, l = some z → ck z = 1) (kr : ∀ z, r = some z → ck z = 7) (hl : va_rf l = .ref a) (hp : pc + 3 = pc_q) (kk : ∀ h_q, cl_T ck E m o h_q → cl_F ck [] 0 0 h h_q → h_q.2.2 b = .inr (10, [.ref (b + 1), va_rf l, va_rf r]) → pm_R d mid pc_q ls st h_q Q) : pm_R d mid pc ls (.ref a :: .ref b :: st) h Q :=
  pm_R_put hM hf hF hq hc (G.ge hk (by decide)) (T.al hk (by decide)) h3 hv (Or.inl hfin) (fs_q := [.ref (b + 1), va_rf l, va_rf r]) (by rw [hl]; rfl) hp (kk _ (T.mut G hk (by decide) (T.D.keep G hk (by decide) (fun _ => ⟨l, r, rfl, kl, kr⟩) (fun z => absurd z (by decide)) (fun z => absurd z (by decide)) (fun z => absurd z (by decide)) (fun z => absurd z (by decide)) (fun z => absurd z (by decide)) (fun z => absurd z (by decide)))) ((rf_G.one _ _ _).mut T.1 hk (by decide)) cl_set_eq)
theorem cl_R_wput2 (G : cl_G ck E) (hM : pm_Mt mid q l_q) (T : cl_T ck E m o h) {ix b a : Nat} {nb : Bool} {qq : vw_C} {l r r0 : Option Nat} (hf : pm_find l_q pc = some (.putfield ix, L)) (hF : pm_at pm_FL q.2.2.2.2 ix = some (10, 2, nb)) (hq : pm_cl[10]? = some qq) (h3 : 2 < 3) (hv : pm_fits (pm_ty qq.2.1 2) (.ref a) = true) (hfin : (qq.2.1 2).2.2.2 = false) (hk : ck b = 22) (hc : h.2.2 b = .inr (10, [.ref (b + 1), va_rf l, va_rf r0])) (kl : ∀ z, l = some z → ck z = 1) (kr : ∀ z, r = some z → ck z = 7) (hr : va_rf r = .ref a) (hp : pc + 3 = pc_q) (kk : ∀ h_q, cl_T ck E m o h_q → cl_F ck [] 0 0 h h_q → h_q.2.2 b = .inr (10, [.ref (b + 1), va_rf l, va_rf r]) → pm_R d mid pc_q ls st h_q Q) : pm_R d mid pc ls (.ref a :: .ref b :: st) h Q :=
  pm_R_put hM hf hF hq hc (G.ge hk (by decide)) (T.al hk (by decide)) h3 hv (Or.inl hfin) (fs_q := [.ref (b + 1), va_rf l, va_rf r]) (by rw [hr]; rfl) hp (kk _ (T.mut G hk (by decide) (T.D.keep G hk (by decide) (fun _ => ⟨l, r, rfl, kl, kr⟩) (fun z => absurd z (by decide)) (fun z => absurd z (by decide)) (fun z => absurd z (by decide)) (fun z => absurd z (by decide)) (fun z => absurd z (by decide)) (fun z => absurd z (by decide)))) ((rf_G.one _ _ _).mut T.1 hk (by decide)) cl_set_eq)
end CLW
end
section
/-! what is known of more cells than before -/
theorem cl_C.mono {ck ck_q : cl_K} {a : Nat} {x : pm_E} (hck : ∀ b, ck b ≠ 0 → ck_q b = ck b) (h : cl_C ck a x) : cl_C ck_q a x := by
  have hO : ∀ (k : Nat) (f : Nat → Option Nat), k ≠ 0 → cl_O ck k f → cl_O ck_q k f := fun k f hk hf i b hb => by
    have := hf i b hb
    rw [hck b (by rw [this]; exact hk)]; exact this
  unfold cl_C at h ⊢
  split at h <;> first | exact h | (obtain ⟨f, e, hf⟩ := h; exact ⟨f, e, hO _ f (by decide) hf⟩)
theorem cl_T.ext {ck ck_q : cl_K} {E E_q : Nat → pm_E} {m : Nat → Int32} {o : Nat → Option Nat} {h h_q : pm_H} (T : cl_T ck E m o h) (hck : ∀ b, ck b ≠ 0 → ck_q b = ck b) (hE0 : ∀ a, a < 16 → E_q a = E a) (hh : ∀ a, a < h.1 → h_q.2.2 a = h.2.2 a) (h1 : h.1 ≤ h_q.1) (hlt : ∀ a, ck_q a ≠ 0 → a < h_q.1) (him : ∀ a, 1 ≤ ck_q a → ck_q a ≤ 14 → h_q.2.2 a = E_q a) (hD : cl_D ck_q h_q) : cl_T ck_q E_q m o h_q := by
  have h72 := T.1
  refine ⟨by omega, by rw [hh 16 (by omega)]; exact T.e16, by rw [hh 17 (by omega)]; exact T.e17, by rw [hh 25 (by omega)]; exact T.e25, by rw [hh 30 (by omega)]; exact T.e30, by rw [hh 31 (by omega)]; exact T.e31, by rw [hh 33 (by omega)]; exact T.e33, T.B, fun b b1 b2 => by rw [hh b (by omega)]; exact (T.C b b1 b2).mono hck, ?_, hlt, him, hD, ?_, fun a ha => by rw [hh a (by omega), hE0 a ha]; exact T.old ha⟩
  · rw [hh 19 (by omega), hh 20 (by omega), hh 21 (by omega), hh 22 (by omega), hh 23 (by omega)]; exact T.N
  · obtain ⟨o1, o2, o3⟩ := T.oo
    exact ⟨fun b hb => by rw [hck b (by rw [o1 b hb]; decide)]; exact o1 b hb, fun b hb => by rw [hck b (by rw [o2 b hb]; decide)]; exact o2 b hb, fun b hb => by rw [hck b (by rw [o3 b hb]; decide)]; exact o3 b hb⟩
theorem cl_F.ck {ck ck_q : cl_K} {A : List Nat} {n s : Nat} {h h_q : pm_H} {H : Nat} (F : cl_F ck_q A n s h h_q) (hH : ∀ b, b < H → ck_q b = ck b) (h0 : h.1 ≤ H) : cl_F ck A n s h h_q := ⟨F.1, F.2.1, F.2.2.1, F.2.2.2.1, fun a h1 h2 h3 => F.2.2.2.2 a h1 h2 (by rw [hH a (by omega)]; exact h3)⟩
end
section
/-! all short ROWS under a LIST: the chart at c has a LIST -/
def cl_NN (ck : cl_K) (h : pm_H) (c : Nat) : Prop := ∃ (lo : Nat) (fi av ah an : Int32), ck lo = 1 ∧ sf_B 0 4 fi ∧ sf_B (-1) 11109 an ∧ h.2.2 c = .inr (3, [.ref (c + 1), .ref (c + 2), .ref (c + 3), .ref (c + 4), .ref lo, .int fi, .int av, .int ah, .int an])
def cl_NT (ck : cl_K) (h h_q : pm_H) : Prop := ∀ c, ck c = 24 → cl_NN ck h c → cl_NN ck h_q c
theorem cl_NT.refl (ck : cl_K) (h : pm_H) : cl_NT ck h h := fun _ _ x => x
theorem cl_NT.trans {ck : cl_K} {h h1 h2 : pm_H} (x : cl_NT ck h h1) (y : cl_NT ck h1 h2) : cl_NT ck h h2 := fun c hc z => y c hc (x c hc z)
theorem cl_NT.same {ck : cl_K} {h h_q : pm_H} (x : ∀ c, ck c = 24 → h_q.2.2 c = h.2.2 c) : cl_NT ck h h_q := fun c hc z => by
  obtain ⟨lo, fi, av, ah, an, h1, h2, h3, h4⟩ := z
  exact ⟨lo, fi, av, ah, an, h1, h2, h3, (x c hc).trans h4⟩
section CLS
variable {d mid pc pc_q : Nat} {ls st : List Value} {h : pm_H} {Q : Option Value → pm_H → Prop} {q : pm_M} {l_q : List (Nat × Instr × Nat)} {L : Nat} {ck : cl_K} {E : Nat → pm_E} {m : Nat → Int32} {o : Nat → Option Nat}
theorem cl_G.s25 (G : cl_G ck E) {b : Nat} (hk : ck b = 24) : ck (b + 1) = 25 ∧ ck (b + 2) = 26 ∧ ck (b + 3) = 27 ∧ ck (b + 4) = 28 := G.2.2.2.2.2.2.2.1 b hk
theorem cl_R_sst25 (G : cl_G ck E) (hM : pm_Mt mid q l_q) (T : cl_T ck E m o h) {b : Nat} {f : Nat → Int32} {j x : Int32} (hf : pm_find l_q pc = some (.iastore, L)) (hk : ck b = 24) (hc : h.2.2 (b + 1) = .inl (0, 15, .inl f)) (hj : pm_in j 15 = true) (hp : pc + 1 = pc_q) (kk : ∀ h_q, cl_T ck E m o h_q → cl_F ck [] 0 0 h h_q → (∀ c, ck c = 24 → h_q.2.2 c = h.2.2 c) → pm_R d mid pc_q ls st h_q Q) : pm_R d mid pc ls (.int x :: .int j :: .ref (b + 1) :: st) h Q := by
  have k := (G.s25 hk).1
  exact pm_R_iast hM hf hc (G.ge k (by decide)) (T.al k (by decide)) hj hp (kk _ (T.mut G k (by decide) (T.D.keep G k (by decide) (fun z => absurd z (by decide)) (fun z => absurd z (by decide)) (fun z => absurd z (by decide)) (fun _ => ⟨_, rfl⟩) (fun z => absurd z (by decide)) (fun z => absurd z (by decide)) (fun z => absurd z (by decide)))) ((rf_G.one _ _ _).mut T.1 k (by decide)) (fun c hc => cl_set_ne (fun e => by subst e; omega)))
theorem cl_R_sst26 (G : cl_G ck E) (hM : pm_Mt mid q l_q) (T : cl_T ck E m o h) {b : Nat} {f : Nat → Int64} {j : Int32} {x : Int64} (hf : pm_find l_q pc = some (.lastore, L)) (hk : ck b = 24) (hc : h.2.2 (b + 2) = .inl (1, 6666, .inr (.inl f))) (hj : pm_in j 6666 = true) (hp : pc + 1 = pc_q) (kk : ∀ h_q, cl_T ck E m o h_q → cl_F ck [] 0 0 h h_q → (∀ c, ck c = 24 → h_q.2.2 c = h.2.2 c) → pm_R d mid pc_q ls st h_q Q) : pm_R d mid pc ls (.long x :: .int j :: .ref (b + 2) :: st) h Q := by
  have k := (G.s25 hk).2.1
  exact pm_R_last hM hf hc (G.ge k (by decide)) (T.al k (by decide)) hj hp (kk _ (T.mut G k (by decide) (T.D.keep G k (by decide) (fun z => absurd z (by decide)) (fun z => absurd z (by decide)) (fun z => absurd z (by decide)) (fun z => absurd z (by decide)) (fun _ => ⟨_, rfl⟩) (fun z => absurd z (by decide)) (fun z => absurd z (by decide)))) ((rf_G.one _ _ _).mut T.1 k (by decide)) (fun c hc => cl_set_ne (fun e => by subst e; omega)))
theorem cl_R_sst27 (G : cl_G ck E) (hM : pm_Mt mid q l_q) (T : cl_T ck E m o h) {b : Nat} {f : Nat → Int32} {j x : Int32} (hf : pm_find l_q pc = some (.iastore, L)) (hk : ck b = 24) (hc : h.2.2 (b + 3) = .inl (0, 6666, .inl f)) (hj : pm_in j 6666 = true) (hp : pc + 1 = pc_q) (kk : ∀ h_q, cl_T ck E m o h_q → cl_F ck [] 0 0 h h_q → (∀ c, ck c = 24 → h_q.2.2 c = h.2.2 c) → pm_R d mid pc_q ls st h_q Q) : pm_R d mid pc ls (.int x :: .int j :: .ref (b + 3) :: st) h Q := by
  have k := (G.s25 hk).2.2.1
  exact pm_R_iast hM hf hc (G.ge k (by decide)) (T.al k (by decide)) hj hp (kk _ (T.mut G k (by decide) (T.D.keep G k (by decide) (fun z => absurd z (by decide)) (fun z => absurd z (by decide)) (fun z => absurd z (by decide)) (fun z => absurd z (by decide)) (fun z => absurd z (by decide)) (fun _ => ⟨_, rfl⟩) (fun z => absurd z (by decide)))) ((rf_G.one _ _ _).mut T.1 k (by decide)) (fun c hc => cl_set_ne (fun e => by subst e; omega)))
theorem cl_R_sst28 (G : cl_G ck E) (hM : pm_Mt mid q l_q) (T : cl_T ck E m o h) {b : Nat} {f : Nat → Int32} {j x : Int32} (hf : pm_find l_q pc = some (.bastore, L)) (hk : ck b = 24) (hc : h.2.2 (b + 4) = .inl (2, 11110, .inl f)) (hj : pm_in j 11110 = true) (hp : pc + 1 = pc_q) (kk : ∀ h_q, cl_T ck E m o h_q → cl_F ck [] 0 0 h h_q → (∀ c, ck c = 24 → h_q.2.2 c = h.2.2 c) → pm_R d mid pc_q ls st h_q Q) : pm_R d mid pc ls (.int x :: .int j :: .ref (b + 4) :: st) h Q := by
  have k := (G.s25 hk).2.2.2
  exact pm_R_bast hM hf hc (G.ge k (by decide)) (T.al k (by decide)) hj hp (kk _ (T.mut G k (by decide) (T.D.keep G k (by decide) (fun z => absurd z (by decide)) (fun z => absurd z (by decide)) (fun z => absurd z (by decide)) (fun z => absurd z (by decide)) (fun z => absurd z (by decide)) (fun z => absurd z (by decide)) (fun _ => ⟨_, rfl⟩))) ((rf_G.one _ _ _).mut T.1 k (by decide)) (fun c hc => cl_set_ne (fun e => by subst e; omega)))
end CLS
end
