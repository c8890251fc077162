/-! THE CLASS: its object at 16, what it holds at 17 to 40; texts, images, charts from 72 on. ck: what lies in a cell (0: nothing that is known), E: what lies in a text's cells for ever. -/
abbrev cl_K : Type := Nat → Nat
/-- a LIST at a: values, wornTo, rules, readings, near behind it -/
def cl_L (E : Nat → pm_E) (a : Nat) : Prop := ∃ (rc tc : Nat) (rs : Int32) (fv : Nat → Int64) (fw fr ft fn : Nat → Int32), rc ≤ 10 ∧ tc ≤ 16 ∧ sf_B 0 9 rs ∧ E a = .inr (4, [.int (Int32.ofNat rc), .ref (a + 3), .int (Int32.ofNat tc), .ref (a + 4), .ref (a + 5), .ref (a + 1), .ref (a + 2), .int rs]) ∧ E (a + 1) = .inl (1, 60, .inr (.inl fv)) ∧ E (a + 2) = .inl (0, 100, .inl fw) ∧ E (a + 3) = .inl (0, 4 * rc, .inl fr) ∧ E (a + 4) = .inl (0, 4 * tc, .inl ft) ∧ E (a + 5) = .inl (0, 10, .inl fn) ∧ (∀ k, k < rc → sf_B 0 5 (fr (4 * k)) ∧ sf_B 0 5 (fr (4 * k + 1)) ∧ sf_B 0 5 (fr (4 * k + 2))) ∧ (∀ k, k < tc → sf_B 0 9 (ft (4 * k)) ∧ sf_B 0 5 (ft (4 * k + 1)) ∧ sf_B 0 49 (ft (4 * k + 2))) ∧ (∀ j, sf_B 0 1023 (fn j))
/-- a ROW -/
def cl_R (E : Nat → pm_E) (a : Nat) : Prop := ∃ (n : Nat) (f : Nat → Int32), 1 ≤ n ∧ n ≤ 12 ∧ E a = .inr (5, [.int (Int32.ofNat n), .ref (a + 1)]) ∧ E (a + 1) = .inl (0, n, .inl f) ∧ ∀ j, sf_B 0 9 (f j)
/-- a MEAL: deeds, gaze, saw -/
def cl_M (E : Nat → pm_E) (a : Nat) : Prop := ∃ (s n : Nat) (fd fg fs : Nat → Int32), 1 ≤ s ∧ s ≤ 6 ∧ n ≤ 50 ∧ E a = .inr (1, [.int (Int32.ofNat s), .int (Int32.ofNat n), .ref (a + 1), .ref (a + 2), .ref (a + 3)]) ∧ E (a + 1) = .inl (0, 4 * n, .inl fd) ∧ E (a + 2) = .inl (0, (n + 1) * s, .inl fg) ∧ E (a + 3) = .inl (0, n, .inl fs) ∧ ∀ k, k < n → sf_B 0 2 (fd (4 * k)) ∧ (0 ≤ (fd (4 * k + 1)).toInt ∧ (fd (4 * k + 1)).toInt < s) ∧ sf_B (-1) 9 (fd (4 * k + 2)) ∧ ((fd (4 * k)).toInt = 2 → 0 ≤ (fd (4 * k + 2)).toInt)
/-- a HOUSE -/
def cl_H (E : Nat → pm_E) (a : Nat) : Prop := ∃ (n : Nat) (f : Nat → Int32), n ≤ 8 ∧ E a = .inr (0, [.int (Int32.ofNat n), .ref (a + 1)]) ∧ E (a + 1) = .inl (0, 4 * n, .inl f) ∧ ∀ k, k < n → sf_B 0 5 (f (4 * k)) ∧ sf_B 0 9 (f (4 * k + 1)) ∧ sf_B (-1) 9 (f (4 * k + 2))
/-- the class's tables and words, which were there before -/
def cl_S (E : Nat → pm_E) : Prop := E 1 = .inl (0, 4, .inl (fun j => pm_sv1.getD j 0)) ∧ E 2 = .inl (0, 13, .inl (fun j => pm_sv2.getD j 0)) ∧ E 3 = .inl (0, 39, .inl (fun j => pm_sv3.getD j 0)) ∧ E 4 = .inl (0, 13, .inl (fun j => pm_sv4.getD j 0)) ∧ E 5 = .inl (0, 5, .inl (fun j => pm_sv5.getD j 0)) ∧ E 6 = .inl (0, 5, .inl (fun j => pm_sv6.getD j 0)) ∧ E 7 = .inl (10, 0, .inl (fun _ => 0)) ∧ E 8 = .inl (10, 0, .inl (fun _ => 0)) ∧ E 9 = .inl (10, 0, .inl (fun _ => 0)) ∧ E 10 = .inl (10, 0, .inl (fun _ => 0)) ∧ E 11 = .inl (2, 14, .inl (fun j => (pm_sby.getD 0 []).getD j 0)) ∧ E 12 = .inl (2, 20, .inl (fun j => (pm_sby.getD 1 []).getD j 0)) ∧ E 13 = .inl (2, 33, .inl (fun j => (pm_sby.getD 2 []).getD j 0)) ∧ E 14 = .inl (2, 23, .inl (fun j => (pm_sby.getD 3 []).getD j 0))
/-- which kinds lie side by side -/
def cl_G (ck : cl_K) (E : Nat → pm_E) : Prop :=
  (∀ a, ck a ≠ 0 → 72 ≤ a) ∧
  (∀ a, ck a = 1 → ck (a + 1) = 2 ∧ ck (a + 2) = 3 ∧ ck (a + 3) = 4 ∧ ck (a + 4) = 5 ∧ ck (a + 5) = 6 ∧ cl_L E a) ∧
  (∀ a, ck a = 7 → ck (a + 1) = 8 ∧ cl_R E a) ∧
  (∀ a, ck a = 9 → ck (a + 1) = 10 ∧ ck (a + 2) = 11 ∧ ck (a + 3) = 12 ∧ cl_M E a) ∧
  (∀ a, ck a = 13 → ck (a + 1) = 14 ∧ cl_H E a) ∧
  (∀ a, ck a = 15 → ck (a + 1) = 16 ∧ ck (a + 2) = 17 ∧ ck (a + 3) = 18 ∧ ck (a + 4) = 19 ∧ ck (a + 5) = 20 ∧ ck (a + 6) = 21) ∧
  (∀ a, ck a = 22 → ck (a + 1) = 23) ∧
  (∀ a, ck a = 24 → ck (a + 1) = 25 ∧ ck (a + 2) = 26 ∧ ck (a + 3) = 27 ∧ ck (a + 4) = 28) ∧ cl_S E
/-- references of one kind -/
def cl_O (ck : cl_K) (k : Nat) (f : Nat → Option Nat) : Prop := ∀ i b, f i = some b → ck b = k
/-- arrays of the object and of images -/
def cl_C (ck : cl_K) (a : Nat) (x : pm_E) : Prop := match a with
  | 18 => ∃ f, x = .inl (2, 600, .inl f)
  | 19 => ∃ f, x = .inl (4, 2, .inr (.inr (.inr (.inr f)))) ∧ cl_O ck 1 f
  | 20 => ∃ f, x = .inl (5, 3, .inr (.inr (.inr (.inr f)))) ∧ cl_O ck 7 f
  | 21 => ∃ f, x = .inl (6, 2, .inr (.inr (.inr (.inr f)))) ∧ cl_O ck 9 f
  | 22 => ∃ f, x = .inl (7, 2, .inr (.inr (.inr (.inr f)))) ∧ cl_O ck 13 f
  | 23 => ∃ f, x = .inl (0, 4, .inl f) ∧ ∀ j, sf_B 0 (if j = 1 then 3 else 2) (f j)
  | 24 => ∃ f, x = .inl (8, 3, .inr (.inr (.inr (.inr f)))) ∧ cl_O ck 15 f
  | 26 => ∃ f, x = .inl (0, 200, .inl f)
  | 27 => ∃ f, x = .inl (0, 64, .inl f)
  | 28 => ∃ f, x = .inl (0, 10, .inl f)
  | 29 => ∃ f, x = .inl (0, 4, .inl f)
  | 32 => ∃ f, x = .inl (1, 468, .inr (.inl f))
  | 34 => ∃ f, x = .inl (1, 468, .inr (.inl f))
  | 35 => ∃ f, x = .inl (0, 12, .inl f)
  | 36 => ∃ f, x = .inl (0, 78, .inl f)
  | 37 => ∃ f, x = .inl (9, 2, .inr (.inr (.inr (.inr f)))) ∧ cl_O ck 24 f
  | 38 => ∃ f, x = .inl (0, 12, .inl f)
  | 39 => ∃ f, x = .inl (0, 50, .inl f)
  | 40 => ∃ f, x = .inl (0, 50, .inl f)
  | _ => True
/-- what is counted is there -/
def cl_N (l r me ho co : pm_E) : Prop := ∀ (c : Nat → Int32), co = .inl (0, 4, .inl c) → (∀ f, l = .inl (4, 2, .inr (.inr (.inr (.inr f)))) → ∀ i : Nat, (i : Int) < (c 0).toInt → ∃ b, f i = some b) ∧ (∀ f, r = .inl (5, 3, .inr (.inr (.inr (.inr f)))) → ∀ i : Nat, (i : Int) < (c 1).toInt → ∃ b, f i = some b) ∧ (∀ f, me = .inl (6, 2, .inr (.inr (.inr (.inr f)))) → ∀ i : Nat, (i : Int) < (c 2).toInt → ∃ b, f i = some b) ∧ (∀ f, ho = .inl (7, 2, .inr (.inr (.inr (.inr f)))) → ∀ i : Nat, (i : Int) < (c 3).toInt → ∃ b, f i = some b)
def cl_lo (k : Nat) : Int := match k with | 0 => 0 | 1 => 0 | 2 => -1 | 3 => 0 | 4 => -1 | 5 => 0 | 6 => 0 | 7 => 0 | 8 => -1 | 9 => 0 | 10 => 0 | 11 => 0 | 12 => 0 | 13 => 0 | _ => -2147483648
def cl_hi (k : Nat) : Int := match k with | 0 => 600 | 1 => 4 | 2 => 600 | 3 => 4 | 4 => 600 | 5 => 50 | 6 => 16 | 7 => 99 | 8 => 99 | 9 => 600 | 10 => 600 | 11 => 600 | 12 => 4 | 13 => 99 | _ => 2147483647
def cl_f16 (o : Nat → Option Nat) : List Value := [.ref 17, .ref 24, .ref 25, .ref 31, .ref 33, va_rf (o 0), .ref 37, .ref 38, .ref 39, .ref 40]
def cl_f17 (m : Nat → Int32) : List Value := [.ref 18, .int (m 0), .int (m 1), .int (m 2), .ref 19, .ref 20, .ref 21, .ref 22, .ref 23]
def cl_f25 (m : Nat → Int32) : List Value := [.ref 30, .int (m 3), .int (m 4), .ref 26, .int (m 5), .ref 27, .int (m 6), .ref 28, .int (m 7), .int (m 8), .ref 29]
def cl_f30 (m : Nat → Int32) : List Value := [.ref 18, .int (m 9), .int (m 10), .int (m 11), .int (m 12), .int (m 13)]
def cl_f33 (m : Nat → Int32) (o : Nat → Option Nat) : List Value := [.ref 34, .ref 35, .int (m 14), .int (m 15), .ref 36, va_rf (o 1), va_rf (o 2)]
/-- images, the charts that are made when first asked for -/
def cl_D (ck : cl_K) (h : pm_H) : Prop :=
  (∀ a, ck a = 15 → ∃ s t u : Int32, sf_B 0 600 s ∧ sf_B 0 4 t ∧ sf_B (-1) 600 u ∧ h.2.2 a = .inr (8, [.ref (a + 1), .int s, .int t, .int u, .ref (a + 2), .ref (a + 3), .ref (a + 4), .ref (a + 5), .ref (a + 6)]) ∧ cl_C ck 18 (h.2.2 (a + 1)) ∧ cl_C ck 19 (h.2.2 (a + 2)) ∧ cl_C ck 20 (h.2.2 (a + 3)) ∧ cl_C ck 21 (h.2.2 (a + 4)) ∧ cl_C ck 22 (h.2.2 (a + 5)) ∧ cl_C ck 23 (h.2.2 (a + 6)) ∧ cl_N (h.2.2 (a + 2)) (h.2.2 (a + 3)) (h.2.2 (a + 4)) (h.2.2 (a + 5)) (h.2.2 (a + 6))) ∧
  (∀ a, ck a = 22 → ∃ l r : Option Nat, h.2.2 a = .inr (10, [.ref (a + 1), va_rf l, va_rf r]) ∧ (∀ b, l = some b → ck b = 1) ∧ (∀ b, r = some b → ck b = 7)) ∧
  (∀ a, ck a = 23 → ∃ f, h.2.2 a = .inl (1, 23400, .inr (.inl f))) ∧
  (∀ a, ck a = 24 → ∃ (l : Option Nat) (fi av ah an : Int32), sf_B 0 4 fi ∧ sf_B (-1) 11109 an ∧ h.2.2 a = .inr (3, [.ref (a + 1), .ref (a + 2), .ref (a + 3), .ref (a + 4), va_rf l, .int fi, .int av, .int ah, .int an]) ∧ ∀ b, l = some b → ck b = 1) ∧
  (∀ a, ck a = 25 → ∃ f, h.2.2 a = .inl (0, 15, .inl f)) ∧
  (∀ a, ck a = 26 → ∃ f, h.2.2 a = .inl (1, 6666, .inr (.inl f))) ∧
  (∀ a, ck a = 27 → ∃ f, h.2.2 a = .inl (0, 6666, .inl f)) ∧
  (∀ a, ck a = 28 → ∃ f, h.2.2 a = .inl (2, 11110, .inl f))
def cl_T (ck : cl_K) (E : Nat → pm_E) (m : Nat → Int32) (o : Nat → Option Nat) (h : pm_H) : Prop :=
  72 ≤ h.1 ∧ h.2.2 16 = .inr (11, cl_f16 o) ∧ h.2.2 17 = .inr (8, cl_f17 m) ∧ h.2.2 25 = .inr (6, cl_f25 m) ∧ h.2.2 30 = .inr (7, cl_f30 m) ∧ h.2.2 31 = .inr (2, [.ref 32]) ∧ h.2.2 33 = .inr (9, cl_f33 m o) ∧
  (∀ k, sf_B (cl_lo k) (cl_hi k) (m k)) ∧ (∀ a, 16 ≤ a → a < 41 → cl_C ck a (h.2.2 a)) ∧ cl_N (h.2.2 19) (h.2.2 20) (h.2.2 21) (h.2.2 22) (h.2.2 23) ∧
  (∀ a, ck a ≠ 0 → a < h.1) ∧ (∀ a, 1 ≤ ck a → ck a ≤ 14 → h.2.2 a = E a) ∧ cl_D ck h ∧
  ((∀ b, o 0 = some b → ck b = 22) ∧ (∀ b, o 1 = some b → ck b = 1) ∧ (∀ b, o 2 = some b → ck b = 7)) ∧ (∀ a, a < 16 → h.2.2 a = E a)
