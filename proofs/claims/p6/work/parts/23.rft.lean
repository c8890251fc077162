/-! THE REFERENCE: its object lies at 41, its arrays at 42 to 71 -/
def rf_fs (m : Nat → Int32) (w : Int64) : List Value := [.int (m 0), .ref 42, .ref 43, .ref 44, .ref 45, .ref 46, .ref 47, .ref 48, .ref 49, .ref 50, .int (m 10), .int (m 11), .int (m 12), .int (m 13), .int (m 14), .long w, .int (m 16), .int (m 17), .int (m 18), .ref 51, .ref 52, .int (m 21), .int (m 22), .int (m 23), .int (m 24), .ref 53, .int (m 26), .int (m 27), .ref 54, .ref 55, .ref 56, .int (m 31), .ref 57, .ref 58, .ref 59, .ref 60, .ref 61, .ref 62, .ref 63, .ref 64, .ref 65, .ref 66, .int (m 42), .int (m 43), .int (m 44), .ref 67, .ref 68, .int (m 47), .ref 69, .int (m 49), .int (m 50), .ref 70, .ref 71]
/-- bounds of its numbers, by field -/
def rf_lo (k : Nat) : Int := match k with | 0 => (0) | 10 => (0) | 11 => (0) | 12 => (0) | 13 => (0) | 14 => (0) | 16 => (0) | 17 => (0) | 18 => (0) | 21 => (-1) | 22 => (0) | 23 => (0) | 24 => (0) | 26 => (-1) | 27 => (0) | 31 => (0) | 42 => (0) | 43 => (0) | 44 => (0) | 47 => (0) | 49 => (0) | _ => -2147483648
def rf_hi (k : Nat) : Int := match k with | 0 => 0 | 10 => 600 | 11 => 600 | 12 => 600 | 13 => 4 | 14 => 99 | 16 => 600 | 17 => 4 | 18 => 600 | 21 => 99 | 22 => 1 | 23 => 1 | 24 => 12 | 26 => 11 | 27 => 15 | 31 => 24 | 42 => 6 | 43 => 50 | 44 => 1 | 47 => 50 | 49 => 1 | _ => 2147483647
def rf_l0 (r : Nat) : Int := if r < 90 then 0 else -2147483648
def rf_l1 (r : Nat) : Int := if r = 0 then 10 else if r = 1 then 16 else if r < 42 then (if (r - 2) % 4 = 3 then 4 else 5) else if r < 90 then (if (r - 42) % 3 = 0 then 9 else if (r - 42) % 3 = 1 then 5 else 49) else 2147483647
def rf_m0 (r : Nat) : Int := if r < 2 then 0 else if (r - 2) % 3 = 2 then -1 else 0
def rf_m1 (r : Nat) : Int := if r = 0 then 6 else if r = 1 then 50 else if (r - 2) % 3 = 0 then 2 else if (r - 2) % 3 = 1 then 5 else 9
def rf_h0 (r : Nat) : Int := if r = 0 then 0 else if (r - 1) % 3 = 2 then -1 else 0
def rf_h1 (r : Nat) : Int := if r = 0 then 8 else if (r - 1) % 3 = 0 then 5 else 9
def rf_C (a : Nat) (x : pm_E) : Prop := match a with
  | 42 => ∃ f, x = .inl (2, 2400, .inl f)
  | 43 => ∃ f, x = .inl (0, 4, .inl f) ∧ ∀ j, sf_B (0) 600 (f j)
  | 44 => ∃ f, x = .inl (0, 4, .inl f) ∧ ∀ j, sf_B (0) 4 (f j)
  | 45 => ∃ f, x = .inl (0, 4, .inl f) ∧ ∀ j, sf_B (-1) 600 (f j)
  | 46 => ∃ f, x = .inl (0, 16, .inl f) ∧ ∀ j, sf_B (0) (if j % 4 = 1 then 3 else 2) (f j)
  | 47 => ∃ f, x = .inl (0, 800, .inl f) ∧ ∀ j, sf_B (rf_l0 (j % 100)) (rf_l1 (j % 100)) (f j)
  | 48 => ∃ f, x = .inl (0, 156, .inl f) ∧ ∀ j, sf_B (0) (if j % 13 = 0 then 12 else 9) (f j)
  | 49 => ∃ f, x = .inl (0, 1216, .inl f) ∧ ∀ j, sf_B (rf_m0 (j % 152)) (rf_m1 (j % 152)) (f j)
  | 50 => ∃ f, x = .inl (0, 200, .inl f) ∧ ∀ j, sf_B (rf_h0 (j % 25)) (rf_h1 (j % 25)) (f j)
  | 51 => ∃ f, x = .inl (0, 152, .inl f)
  | 52 => ∃ f, x = .inl (0, 4, .inl f) ∧ ∀ j, sf_B (-1) 99 (f j)
  | 53 => ∃ f, x = .inl (0, 12, .inl f)
  | 54 => ∃ f, x = .inl (1, 864, .inr (.inl f))
  | 55 => ∃ f, x = .inl (1, 864, .inr (.inl f)) ∧ ∀ j, lf_B 0 1000000000000 (f j)
  | 56 => ∃ f, x = .inl (1, 43200, .inr (.inl f))
  | 57 => ∃ f, x = .inl (0, 24, .inl f) ∧ ∀ j, sf_B (0) 5 (f j)
  | 58 => ∃ f, x = .inl (0, 24, .inl f) ∧ ∀ j, sf_B (0) 11 (f j)
  | 59 => ∃ f, x = .inl (0, 24, .inl f) ∧ ∀ j, sf_B (0) 11 (f j)
  | 60 => ∃ f, x = .inl (1, 24, .inr (.inl f)) ∧ ∀ j, lf_B 0 9223372036854775807 (f j)
  | 61 => ∃ f, x = .inl (0, 24, .inl f) ∧ ∀ j, sf_B (-1) 9 (f j)
  | 62 => ∃ f, x = .inl (0, 24, .inl f) ∧ ∀ j, sf_B (0) 11 (f j)
  | 63 => ∃ f, x = .inl (0, 24, .inl f) ∧ ∀ j, sf_B (0) 22 (f j)
  | 64 => ∃ f, x = .inl (0, 24, .inl f)
  | 65 => ∃ f, x = .inl (0, 12, .inl f) ∧ ∀ j, sf_B (0) 15 (f j)
  | 66 => ∃ f, x = .inl (0, 5, .inl f) ∧ ∀ j, sf_B (0) (if j = 0 then 4 else 9) (f j)
  | 67 => ∃ f, x = .inl (0, 306, .inl f)
  | 68 => ∃ f, x = .inl (0, 50, .inl f)
  | 69 => ∃ f, x = .inl (0, 50, .inl f)
  | 70 => ∃ f, x = .inl (0, 12, .inl f) ∧ ∀ j, sf_B (0) 9 (f j)
  | 71 => ∃ f, x = .inl (3, 3, .inl f)
  | _ => True
/-- rows that are there have a SIGN at least -/
def rf_X (x y : pm_E) : Prop := ∀ f g : Nat → Int32, x = .inl (0, 16, .inl f) → y = .inl (0, 156, .inl g) → ∀ c r : Nat, c < 4 → r < 3 → (r : Int) < (f (4 * c + 1)).toInt → 1 ≤ (g (39 * c + 13 * r)).toInt
def rf_T (m : Nat → Int32) (w : Int64) (h : pm_H) : Prop := 72 ≤ h.1 ∧ h.2.2 41 = .inr (12, rf_fs m w) ∧ (∀ k, sf_B (rf_lo k) (rf_hi k) (m k)) ∧ (∀ a, 42 ≤ a → a < 72 → rf_C a (h.2.2 a)) ∧ rf_X (h.2.2 46) (h.2.2 48)
/-- what a question leaves as it was -/
def rf_F (h h' : pm_H) : Prop := h'.1 = h.1 ∧ h'.2.1 = h.2.1 ∧ ∀ a, (a < 41 ∨ (42 ≤ a ∧ a < 51) ∨ 71 ≤ a) → h'.2.2 a = h.2.2 a
theorem rf_F.refl (h : pm_H) : rf_F h h := ⟨rfl, rfl, fun _ _ => rfl⟩
theorem rf_F.trans {h h1 h2 : pm_H} (x : rf_F h h1) (y : rf_F h1 h2) : rf_F h h2 := ⟨y.1.trans x.1, y.2.1.trans x.2.1, fun a ha => (y.2.2 a ha).trans (x.2.2 a ha)⟩
theorem rf_F.set {h : pm_H} {a : Nat} {x : pm_E} (ha : a = 41 ∨ (51 ≤ a ∧ a < 71)) : rf_F h (pm_set h a x) := by
  refine ⟨rfl, rfl, fun b hb => ?_⟩
  simp [pm_set, va_up, show ¬ b = a by omega]
/-- an array that is no told one is written -/
theorem rf_T.arr {m : Nat → Int32} {w : Int64} {h : pm_H} {a : Nat} {x : pm_E} (T : rf_T m w h) (h1 : 51 ≤ a) (h2 : a < 72) (hx : rf_C a x) : rf_T m w (pm_set h a x) := by
  have e : ∀ b, b ≠ a → (pm_set h a x).2.2 b = h.2.2 b := fun b hb => by simp [pm_set, va_up, hb]
  have e0 : (pm_set h a x).2.2 a = x := by simp [pm_set, va_up]
  refine ⟨T.1, by rw [e 41 (by omega)]; exact T.2.1, T.2.2.1, fun b b1 b2 => ?_, by rw [e 46 (by omega), e 48 (by omega)]; exact T.2.2.2.2⟩
  by_cases hb : b = a
  · subst hb; rw [e0]; exact hx
  · rw [e b hb]; exact T.2.2.2.1 b b1 b2
/-- a number of the object is written -/
theorem rf_T.num {m : Nat → Int32} {w : Int64} {h : pm_H} {k : Nat} {v : Int32} (T : rf_T m w h) (hv : sf_B (rf_lo k) (rf_hi k) v) {fs : List Value} (hf : fs = rf_fs (upd m k v) w) : rf_T (upd m k v) w (pm_set h 41 (.inr (12, fs))) := by
  have e : ∀ b, b ≠ 41 → (pm_set h 41 (.inr (12, fs))).2.2 b = h.2.2 b := fun b hb => by simp [pm_set, va_up, hb]
  have e0 : (pm_set h 41 (.inr (12, fs))).2.2 41 = .inr (12, fs) := by simp [pm_set, va_up]
  refine ⟨T.1, by rw [e0, hf], fun j => ?_, fun b b1 b2 => by rw [e b (by omega)]; exact T.2.2.2.1 b b1 b2, by rw [e 46 (by omega), e 48 (by omega)]; exact T.2.2.2.2⟩
  unfold upd
  split
  · rename_i hj; rw [hj]; exact hv
  · exact T.2.2.1 j
theorem rf_T.word {m : Nat → Int32} {w w' : Int64} {h : pm_H} (T : rf_T m w h) {fs : List Value} (hf : fs = rf_fs m w') : rf_T m w' (pm_set h 41 (.inr (12, fs))) := by
  have e : ∀ b, b ≠ 41 → (pm_set h 41 (.inr (12, fs))).2.2 b = h.2.2 b := fun b hb => by simp [pm_set, va_up, hb]
  have e0 : (pm_set h 41 (.inr (12, fs))).2.2 41 = .inr (12, fs) := by simp [pm_set, va_up]
  exact ⟨T.1, by rw [e0, hf], T.2.2.1, fun b b1 b2 => by rw [e b (by omega)]; exact T.2.2.2.1 b b1 b2, by rw [e 46 (by omega), e 48 (by omega)]; exact T.2.2.2.2⟩
