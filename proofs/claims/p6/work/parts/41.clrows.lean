/-- what a call leaves as it was: all cells that were there but those of A and the charts; at most n cells and s slots are made -/
def cl_F (ck : cl_K) (A : List Nat) (n s : Nat) (h h' : pm_H) : Prop := 72 ≤ h.1 ∧ h.1 ≤ h'.1 ∧ h'.1 ≤ h.1 + n ∧ h'.2.1 ≤ h.2.1 + s ∧ ∀ a, a < h.1 → a ∉ A → ck a < 22 → h'.2.2 a = h.2.2 a
theorem cl_F.refl {ck : cl_K} {A : List Nat} {n s : Nat} {h : pm_H} (h72 : 72 ≤ h.1) : cl_F ck A n s h h := ⟨h72, Nat.le_refl _, Nat.le_add_right _ _, Nat.le_add_right _ _, fun _ _ _ _ => rfl⟩
theorem cl_F.trans {ck : cl_K} {A A' : List Nat} {n s n' s' N S : Nat} {h h1 h2 : pm_H} (x : cl_F ck A n s h h1) (y : cl_F ck A' n' s' h1 h2) (hl : ∀ k ∈ A', k ∈ A) (hn : n + n' ≤ N) (hs : s + s' ≤ S) : cl_F ck A N S h h2 := by
  obtain ⟨x0, x1, x2, x3, x4⟩ := x
  obtain ⟨y0, y1, y2, y3, y4⟩ := y
  exact ⟨x0, by omega, by omega, by omega, fun a a1 a2 a3 => (y4 a (by omega) (fun z => a2 (hl a z)) a3).trans (x4 a a1 a2 a3)⟩
theorem cl_F.weak {ck : cl_K} {A : List Nat} {n s N S : Nat} {h h1 : pm_H} (x : cl_F ck A n s h h1) (hn : n ≤ N) (hs : s ≤ S) : cl_F ck A N S h h1 := by
  obtain ⟨x0, x1, x2, x3, x4⟩ := x
  exact ⟨x0, x1, by omega, by omega, x4⟩
theorem rf_G.cl {ck : cl_K} {A : List Nat} {h h' : pm_H} (x : rf_G A h h') (h72 : 72 ≤ h.1) : cl_F ck A 0 0 h h' := ⟨h72, by rw [x.1]; exact Nat.le_refl _, by rw [x.1]; exact Nat.le_refl _, by rw [x.2.1]; exact Nat.le_refl _, fun a _ ha _ => x.2.2 a ha⟩
theorem cl_F.cell {ck : cl_K} {E : Nat → pm_E} {A : List Nat} {n s : Nat} {h h' : pm_H} (F : cl_F ck A n s h h') (G : cl_G ck E) {a : Nat} {x : pm_E} (ha : a ∉ A) (h72 : a < 72) (e : h.2.2 a = x) : h'.2.2 a = x := by
  have hk : ck a = 0 := by
    by_cases z : ck a = 0
    · exact z
    · have := G.1 a z; omega
  exact (F.2.2.2.2 a (Nat.lt_of_lt_of_le h72 F.1) ha (by omega)).trans e
section CLT
variable {ck : cl_K} {E : Nat → pm_E} {m : Nat → Int32} {o : Nat → Option Nat} {h : pm_H}
theorem cl_T.lt (T : cl_T ck E m o h) {a : Nat} (ha : a < 72) : a < h.1 := Nat.lt_of_lt_of_le ha T.1
theorem cl_T.e16 (T : cl_T ck E m o h) : h.2.2 16 = .inr (11, cl_f16 o) := T.2.1
theorem cl_T.e17 (T : cl_T ck E m o h) : h.2.2 17 = .inr (8, cl_f17 m) := T.2.2.1
theorem cl_T.e25 (T : cl_T ck E m o h) : h.2.2 25 = .inr (6, cl_f25 m) := T.2.2.2.1
theorem cl_T.e30 (T : cl_T ck E m o h) : h.2.2 30 = .inr (7, cl_f30 m) := T.2.2.2.2.1
theorem cl_T.e31 (T : cl_T ck E m o h) : h.2.2 31 = .inr (2, [.ref 32]) := T.2.2.2.2.2.1
theorem cl_T.e33 (T : cl_T ck E m o h) : h.2.2 33 = .inr (9, cl_f33 m o) := T.2.2.2.2.2.2.1
theorem cl_T.B (T : cl_T ck E m o h) (k : Nat) : sf_B (cl_lo k) (cl_hi k) (m k) := T.2.2.2.2.2.2.2.1 k
theorem cl_T.C (T : cl_T ck E m o h) (a : Nat) (h1 : 16 ≤ a) (h2 : a < 41) : cl_C ck a (h.2.2 a) := T.2.2.2.2.2.2.2.2.1 a h1 h2
theorem cl_T.N (T : cl_T ck E m o h) : cl_N (h.2.2 19) (h.2.2 20) (h.2.2 21) (h.2.2 22) (h.2.2 23) := T.2.2.2.2.2.2.2.2.2.1
theorem cl_T.al (T : cl_T ck E m o h) {a k : Nat} (hk : ck a = k) (h0 : k ≠ 0) : a < h.1 := T.2.2.2.2.2.2.2.2.2.2.1 a (by rw [hk]; exact h0)
theorem cl_T.im (T : cl_T ck E m o h) {a k : Nat} {x : pm_E} (hk : ck a = k) (h1 : 1 ≤ k) (h2 : k ≤ 14) (e : E a = x) : h.2.2 a = x := (T.2.2.2.2.2.2.2.2.2.2.2.1 a (by rw [hk]; exact h1) (by rw [hk]; exact h2)).trans e
theorem cl_T.D (T : cl_T ck E m o h) : cl_D ck h := T.2.2.2.2.2.2.2.2.2.2.2.2.1
theorem cl_T.oo (T : cl_T ck E m o h) : (∀ b, o 0 = some b → ck b = 22) ∧ (∀ b, o 1 = some b → ck b = 1) ∧ (∀ b, o 2 = some b → ck b = 7) := T.2.2.2.2.2.2.2.2.2.2.2.2.2.1
theorem cl_T.old (T : cl_T ck E m o h) {a : Nat} (ha : a < 16) : h.2.2 a = E a := T.2.2.2.2.2.2.2.2.2.2.2.2.2.2 a ha
theorem cl_G.ge (G : cl_G ck E) {a k : Nat} (hk : ck a = k) (h0 : k ≠ 0) : 16 ≤ a := Nat.le_trans (by decide) (G.1 a (by rw [hk]; exact h0))
theorem cl_D.low {h' : pm_H} (G : cl_G ck E) (D : cl_D ck h) (he : ∀ b, 72 ≤ b → h'.2.2 b = h.2.2 b) : cl_D ck h' := by
  have g : ∀ b, ck b ≠ 0 → h'.2.2 b = h.2.2 b := fun b hb => he b (G.1 b hb)
  obtain ⟨d1, d2, d3, d4, d5, d6, d7, d8⟩ := D
  refine ⟨fun a ha => ?_, fun a ha => ?_, fun a ha => ?_, fun a ha => ?_, fun a ha => ?_, fun a ha => ?_, fun a ha => ?_, fun a ha => ?_⟩
  · obtain ⟨q1, q2, q3, q4, q5, q6⟩ := G.2.2.2.2.2.1 a ha
    have hx := d1 a ha
    rw [← g a (by omega), ← g (a + 1) (by omega), ← g (a + 2) (by omega), ← g (a + 3) (by omega), ← g (a + 4) (by omega), ← g (a + 5) (by omega), ← g (a + 6) (by omega)] at hx
    exact hx
  · rw [g a (by omega)]; exact d2 a ha
  · rw [g a (by omega)]; exact d3 a ha
  · rw [g a (by omega)]; exact d4 a ha
  · rw [g a (by omega)]; exact d5 a ha
  · rw [g a (by omega)]; exact d6 a ha
  · rw [g a (by omega)]; exact d7 a ha
  · rw [g a (by omega)]; exact d8 a ha
theorem cl_set_ne {h : pm_H} {a b : Nat} {x : pm_E} (hb : b ≠ a) : (pm_set h a x).2.2 b = h.2.2 b := by simp [pm_set, va_up, hb]
theorem cl_set_eq {h : pm_H} {a : Nat} {x : pm_E} : (pm_set h a x).2.2 a = x := by simp [pm_set, va_up]
/-- an array of the object is written that holds no references and no counts -/
theorem cl_T.arr (G : cl_G ck E) (T : cl_T ck E m o h) {a : Nat} {x : pm_E} (ha : a = 18 ∨ a = 26 ∨ a = 27 ∨ a = 28 ∨ a = 29 ∨ a = 32 ∨ a = 34 ∨ a = 35 ∨ a = 36 ∨ a = 38 ∨ a = 39 ∨ a = 40) (hx : cl_C ck a x) : cl_T ck E m o (pm_set h a x) := by
  refine ⟨T.1, by rw [cl_set_ne (by omega)]; exact T.e16, by rw [cl_set_ne (by omega)]; exact T.e17, by rw [cl_set_ne (by omega)]; exact T.e25, by rw [cl_set_ne (by omega)]; exact T.e30, by rw [cl_set_ne (by omega)]; exact T.e31, by rw [cl_set_ne (by omega)]; exact T.e33, T.B, fun b b1 b2 => ?_, ?_, T.2.2.2.2.2.2.2.2.2.2.1, fun b b1 b2 => ?_, cl_D.low G T.D (fun b hb => cl_set_ne (by omega)), T.oo, fun b hb => by rw [cl_set_ne (by omega)]; exact T.old hb⟩
  · by_cases hb : b = a
    · subst hb; rw [cl_set_eq]; exact hx
    · rw [cl_set_ne hb]; exact T.C b b1 b2
  · rw [cl_set_ne (by omega), cl_set_ne (by omega), cl_set_ne (by omega), cl_set_ne (by omega), cl_set_ne (by omega)]; exact T.N
  · have := G.1 b (by omega)
    rw [cl_set_ne (by omega)]
    exact T.2.2.2.2.2.2.2.2.2.2.2.1 b b1 b2
/-- a cell of which nothing is known is written -/
theorem cl_T.tmp (G : cl_G ck E) (T : cl_T ck E m o h) {a : Nat} {x : pm_E} (ha : 72 ≤ a) (hk : ck a = 0) : cl_T ck E m o (pm_set h a x) := by
  have g : ∀ b, ck b ≠ 0 → (pm_set h a x).2.2 b = h.2.2 b := fun b hb => cl_set_ne (fun e => hb (e ▸ hk))
  have D := T.D
  refine ⟨T.1, by rw [cl_set_ne (by omega)]; exact T.e16, by rw [cl_set_ne (by omega)]; exact T.e17, by rw [cl_set_ne (by omega)]; exact T.e25, by rw [cl_set_ne (by omega)]; exact T.e30, by rw [cl_set_ne (by omega)]; exact T.e31, by rw [cl_set_ne (by omega)]; exact T.e33, T.B, fun b b1 b2 => by rw [cl_set_ne (by omega)]; exact T.C b b1 b2, ?_, T.2.2.2.2.2.2.2.2.2.2.1, fun b b1 b2 => by rw [g b (by omega)]; exact T.2.2.2.2.2.2.2.2.2.2.2.1 b b1 b2, ?_, T.oo, fun b hb => by rw [cl_set_ne (by omega)]; exact T.old hb⟩
  · rw [cl_set_ne (by omega), cl_set_ne (by omega), cl_set_ne (by omega), cl_set_ne (by omega), cl_set_ne (by omega)]; exact T.N
  · obtain ⟨d1, d2, d3, d4, d5, d6, d7, d8⟩ := D
    refine ⟨fun a ha => ?_, fun a ha => ?_, fun a ha => ?_, fun a ha => ?_, fun a ha => ?_, fun a ha => ?_, fun a ha => ?_, fun a ha => ?_⟩
    · obtain ⟨q1, q2, q3, q4, q5, q6⟩ := G.2.2.2.2.2.1 a ha
      have hx := d1 a ha
      rw [← g a (by omega), ← g (a + 1) (by omega), ← g (a + 2) (by omega), ← g (a + 3) (by omega), ← g (a + 4) (by omega), ← g (a + 5) (by omega), ← g (a + 6) (by omega)] at hx
      exact hx
    · rw [g a (by omega)]; exact d2 a ha
    · rw [g a (by omega)]; exact d3 a ha
    · rw [g a (by omega)]; exact d4 a ha
    · rw [g a (by omega)]; exact d5 a ha
    · rw [g a (by omega)]; exact d6 a ha
    · rw [g a (by omega)]; exact d7 a ha
    · rw [g a (by omega)]; exact d8 a ha
/-- a number of one of its objects is written -/
theorem cl_T.put17 (G : cl_G ck E) (T : cl_T ck E m o h) {k : Nat} {x : Int32} {fs : List Value} (hb : sf_B (cl_lo k) (cl_hi k) x) (q0 : fs = cl_f17 (upd m k x)) (q25 : cl_f25 (upd m k x) = cl_f25 m) (q30 : cl_f30 (upd m k x) = cl_f30 m) (q33 : cl_f33 (upd m k x) o = cl_f33 m o) : cl_T ck E (upd m k x) o (pm_set h 17 (.inr (8, fs))) := by
  refine ⟨T.1, by rw [cl_set_ne (by omega)]; exact T.e16, by rw [cl_set_eq, q0], by rw [cl_set_ne (by omega), q25]; exact T.e25, by rw [cl_set_ne (by omega), q30]; exact T.e30, by rw [cl_set_ne (by omega)]; exact T.e31, by rw [cl_set_ne (by omega), q33]; exact T.e33, fun j => ?_, fun b b1 b2 => ?_, ?_, T.2.2.2.2.2.2.2.2.2.2.1, fun b b1 b2 => ?_, cl_D.low G T.D (fun b hb => cl_set_ne (by omega)), T.oo, fun b hb => by rw [cl_set_ne (by omega)]; exact T.old hb⟩
  · unfold upd; split
    · rename_i e; rw [e]; exact hb
    · exact T.B j
  · by_cases e : b = 17
    · subst e; exact trivial
    · rw [cl_set_ne e]; exact T.C b b1 b2
  · rw [cl_set_ne (by omega), cl_set_ne (by omega), cl_set_ne (by omega), cl_set_ne (by omega), cl_set_ne (by omega)]; exact T.N
  · have := G.1 b (by omega)
    rw [cl_set_ne (by omega)]; exact T.2.2.2.2.2.2.2.2.2.2.2.1 b b1 b2
theorem cl_T.put25 (G : cl_G ck E) (T : cl_T ck E m o h) {k : Nat} {x : Int32} {fs : List Value} (hb : sf_B (cl_lo k) (cl_hi k) x) (q0 : fs = cl_f25 (upd m k x)) (q17 : cl_f17 (upd m k x) = cl_f17 m) (q30 : cl_f30 (upd m k x) = cl_f30 m) (q33 : cl_f33 (upd m k x) o = cl_f33 m o) : cl_T ck E (upd m k x) o (pm_set h 25 (.inr (6, fs))) := by
  refine ⟨T.1, by rw [cl_set_ne (by omega)]; exact T.e16, by rw [cl_set_ne (by omega), q17]; exact T.e17, by rw [cl_set_eq, q0], by rw [cl_set_ne (by omega), q30]; exact T.e30, by rw [cl_set_ne (by omega)]; exact T.e31, by rw [cl_set_ne (by omega), q33]; exact T.e33, fun j => ?_, fun b b1 b2 => ?_, ?_, T.2.2.2.2.2.2.2.2.2.2.1, fun b b1 b2 => ?_, cl_D.low G T.D (fun b hb => cl_set_ne (by omega)), T.oo, fun b hb => by rw [cl_set_ne (by omega)]; exact T.old hb⟩
  · unfold upd; split
    · rename_i e; rw [e]; exact hb
    · exact T.B j
  · by_cases e : b = 25
    · subst e; exact trivial
    · rw [cl_set_ne e]; exact T.C b b1 b2
  · rw [cl_set_ne (by omega), cl_set_ne (by omega), cl_set_ne (by omega), cl_set_ne (by omega), cl_set_ne (by omega)]; exact T.N
  · have := G.1 b (by omega)
    rw [cl_set_ne (by omega)]; exact T.2.2.2.2.2.2.2.2.2.2.2.1 b b1 b2
theorem cl_T.put30 (G : cl_G ck E) (T : cl_T ck E m o h) {k : Nat} {x : Int32} {fs : List Value} (hb : sf_B (cl_lo k) (cl_hi k) x) (q0 : fs = cl_f30 (upd m k x)) (q17 : cl_f17 (upd m k x) = cl_f17 m) (q25 : cl_f25 (upd m k x) = cl_f25 m) (q33 : cl_f33 (upd m k x) o = cl_f33 m o) : cl_T ck E (upd m k x) o (pm_set h 30 (.inr (7, fs))) := by
  refine ⟨T.1, by rw [cl_set_ne (by omega)]; exact T.e16, by rw [cl_set_ne (by omega), q17]; exact T.e17, by rw [cl_set_ne (by omega), q25]; exact T.e25, by rw [cl_set_eq, q0], by rw [cl_set_ne (by omega)]; exact T.e31, by rw [cl_set_ne (by omega), q33]; exact T.e33, fun j => ?_, fun b b1 b2 => ?_, ?_, T.2.2.2.2.2.2.2.2.2.2.1, fun b b1 b2 => ?_, cl_D.low G T.D (fun b hb => cl_set_ne (by omega)), T.oo, fun b hb => by rw [cl_set_ne (by omega)]; exact T.old hb⟩
  · unfold upd; split
    · rename_i e; rw [e]; exact hb
    · exact T.B j
  · by_cases e : b = 30
    · subst e; exact trivial
    · rw [cl_set_ne e]; exact T.C b b1 b2
  · rw [cl_set_ne (by omega), cl_set_ne (by omega), cl_set_ne (by omega), cl_set_ne (by omega), cl_set_ne (by omega)]; exact T.N
  · have := G.1 b (by omega)
    rw [cl_set_ne (by omega)]; exact T.2.2.2.2.2.2.2.2.2.2.2.1 b b1 b2
theorem cl_T.put33 (G : cl_G ck E) (T : cl_T ck E m o h) {k : Nat} {x : Int32} {fs : List Value} (hb : sf_B (cl_lo k) (cl_hi k) x) (q0 : fs = cl_f33 (upd m k x) o) (q17 : cl_f17 (upd m k x) = cl_f17 m) (q25 : cl_f25 (upd m k x) = cl_f25 m) (q30 : cl_f30 (upd m k x) = cl_f30 m) : cl_T ck E (upd m k x) o (pm_set h 33 (.inr (9, fs))) := by
  refine ⟨T.1, by rw [cl_set_ne (by omega)]; exact T.e16, by rw [cl_set_ne (by omega), q17]; exact T.e17, by rw [cl_set_ne (by omega), q25]; exact T.e25, by rw [cl_set_ne (by omega), q30]; exact T.e30, by rw [cl_set_ne (by omega)]; exact T.e31, by rw [cl_set_eq, q0], fun j => ?_, fun b b1 b2 => ?_, ?_, T.2.2.2.2.2.2.2.2.2.2.1, fun b b1 b2 => ?_, cl_D.low G T.D (fun b hb => cl_set_ne (by omega)), T.oo, fun b hb => by rw [cl_set_ne (by omega)]; exact T.old hb⟩
  · unfold upd; split
    · rename_i e; rw [e]; exact hb
    · exact T.B j
  · by_cases e : b = 33
    · subst e; exact trivial
    · rw [cl_set_ne e]; exact T.C b b1 b2
  · rw [cl_set_ne (by omega), cl_set_ne (by omega), cl_set_ne (by omega), cl_set_ne (by omega), cl_set_ne (by omega)]; exact T.N
  · have := G.1 b (by omega)
    rw [cl_set_ne (by omega)]; exact T.2.2.2.2.2.2.2.2.2.2.2.1 b b1 b2
end CLT
theorem sf_ofT {n : Nat} (h : n ≤ 1000000) : (Int32.ofNat n).toInt = n := by
  rw [Int32.toInt_ofNat_of_lt (by omega)]
theorem sf_ofB {n k : Nat} (h : n ≤ k) (hk : k ≤ 1000000) : sf_B 0 k (Int32.ofNat n) := by
  unfold sf_B
  rw [sf_ofT (by omega)]
  omega
theorem sf_ofB1 {n k j : Nat} (h : n ≤ k) (hj : j ≤ n) (hk : k ≤ 1000000) : sf_B j k (Int32.ofNat n) := by
  unfold sf_B
  rw [sf_ofT (by omega)]
  omega
/-- a place in an array of fours -/
theorem cl_in4 {r j : Int32} {n : Nat} {c : Int} {a b : Int} (hn : n ≤ 1000) (p : r < Int32.ofNat n) (e : j.toInt = 4 * r.toInt + c) (B : sf_B a b r) (ha : 0 ≤ a) (hc : 0 ≤ c ∧ c ≤ 3) : pm_in j (4 * n) = true ∧ r.toInt.toNat < n ∧ j.toNatClampNeg = 4 * r.toInt.toNat + c.toNat := by
  have h1 := Int32.lt_iff_toInt_lt.mp p
  rw [sf_ofT (by omega)] at h1
  have h2 := B.1
  have e0 : j.toNatClampNeg = j.toInt.toNat := rfl
  refine ⟨sf_in (a := j.toInt) (b := j.toInt) ⟨Int.le_refl _, Int.le_refl _⟩ (by omega) (by omega), by omega, by rw [e0]; omega⟩
/-- a place in an array as long as a number -/
theorem cl_in1 {r : Int32} {n : Nat} {a b : Int} (hn : n ≤ 1000) (p : r < Int32.ofNat n) (B : sf_B a b r) (ha : 0 ≤ a) : pm_in r n = true ∧ r.toInt.toNat < n ∧ r.toNatClampNeg = r.toInt.toNat := by
  have h1 := Int32.lt_iff_toInt_lt.mp p
  rw [sf_ofT (by omega)] at h1
  have h2 := B.1
  refine ⟨sf_in (a := r.toInt) (b := r.toInt) ⟨Int.le_refl _, Int.le_refl _⟩ (by omega) (by omega), by omega, rfl⟩
theorem cl_c03 {x : Int32} {a b : Int} (B : sf_B a b x) (ha : 0 ≤ a) (hb : b ≤ 3) : 0 ≤ x.toInt ∧ x.toInt ≤ 3 := ⟨Int.le_trans ha B.1, Int.le_trans B.2 hb⟩
theorem cl_ltN {x : Int32} {n : Nat} (h : n ≤ 6) (p : x < Int32.ofNat n) : x.toInt < n := by
  have := Int32.lt_iff_toInt_lt.mp p
  rw [sf_ofT (by omega)] at this
  exact this
theorem cl_seat {x : Int32} {s : Nat} (h : 0 ≤ x.toInt ∧ x.toInt < s) (hs : s ≤ 6) : sf_B 0 5 x := by
  unfold sf_B; omega
theorem cl_inG {s n : Nat} {k w j z : Int32} {a b c e : Int} (hs : s ≤ 6) (hn : n ≤ 50) (e1 : j.toInt = z.toInt + w.toInt) (e2 : z.toInt = k.toInt * (Int32.ofNat s).toInt) (hk : k ≤ Int32.ofNat n) (hw : w.toInt < s) (Bk : sf_B a b k) (Bw : sf_B c e w) (ha : 0 ≤ a) (hc : 0 ≤ c) : pm_in j ((n + 1) * s) = true := by
  have h1 := Int32.le_iff_toInt_le.mp hk
  rw [sf_ofT (by omega)] at h1
  rw [sf_ofT (by omega)] at e2
  have h2 := Bk.1; have h3 := Bw.1
  have h4 : 0 ≤ k.toInt * (s : Int) := Int.mul_nonneg (by omega) (by omega)
  have h5 : k.toInt * (s : Int) ≤ n * s := Int.mul_le_mul_of_nonneg_right h1 (by omega)
  have h6 : (((n + 1) * s : Nat) : Int) = n * s + s := by rw [Int.natCast_mul, Int.natCast_add, Int.add_mul]; simp
  exact sf_in (a := j.toInt) (b := j.toInt) ⟨Int.le_refl _, Int.le_refl _⟩ (by omega) (by omega)
theorem cl_c3 {f : Nat → Int32} (b : ∀ j, sf_B 0 (if j = 1 then 3 else 2) (f j)) (j : Nat) : sf_B 0 3 (f j) := sf_weak (b j) (Int.le_refl 0) (by split <;> decide)
section THERE
variable {ck : cl_K} {E : Nat → pm_E} {m : Nat → Int32} {o : Nat → Option Nat} {h : pm_H} {c : Nat → Int32} {f : Nat → Option Nat} {j z : Int32} {a b : Int}
theorem cl_there0 (T : cl_T ck E m o h) (ec : h.2.2 23 = .inl (0, 4, .inl c)) (ef : h.2.2 19 = .inl (4, 2, .inr (.inr (.inr (.inr f))))) (ez : c (Int32.toNatClampNeg 0) = z) (p : j < z) (B : sf_B a b j) (ha : 0 ≤ a) : ∃ x, f (Int32.toNatClampNeg j) = some x := by
  have h1 := B.1
  have h2 := Int32.lt_iff_toInt_lt.mp p
  have e0 : c 0 = z := ez
  exact (T.N c ec).1 f ef _ (by rw [e0]; show (j.toInt.toNat : Int) < _; omega)
theorem cl_there1 (T : cl_T ck E m o h) (ec : h.2.2 23 = .inl (0, 4, .inl c)) (ef : h.2.2 20 = .inl (5, 3, .inr (.inr (.inr (.inr f))))) (ez : c (Int32.toNatClampNeg 1) = z) (p : j < z) (B : sf_B a b j) (ha : 0 ≤ a) : ∃ x, f (Int32.toNatClampNeg j) = some x := by
  have h1 := B.1
  have h2 := Int32.lt_iff_toInt_lt.mp p
  have e0 : c 1 = z := ez
  exact (T.N c ec).2.1 f ef _ (by rw [e0]; show (j.toInt.toNat : Int) < _; omega)
theorem cl_there2 (T : cl_T ck E m o h) (ec : h.2.2 23 = .inl (0, 4, .inl c)) (ef : h.2.2 21 = .inl (6, 2, .inr (.inr (.inr (.inr f))))) (ez : c (Int32.toNatClampNeg 2) = z) (p : j < z) (B : sf_B a b j) (ha : 0 ≤ a) : ∃ x, f (Int32.toNatClampNeg j) = some x := by
  have h1 := B.1
  have h2 := Int32.lt_iff_toInt_lt.mp p
  have e0 : c 2 = z := ez
  exact (T.N c ec).2.2.1 f ef _ (by rw [e0]; show (j.toInt.toNat : Int) < _; omega)
theorem cl_there3 (T : cl_T ck E m o h) (ec : h.2.2 23 = .inl (0, 4, .inl c)) (ef : h.2.2 22 = .inl (7, 2, .inr (.inr (.inr (.inr f))))) (ez : c (Int32.toNatClampNeg 3) = z) (p : j < z) (B : sf_B a b j) (ha : 0 ≤ a) : ∃ x, f (Int32.toNatClampNeg j) = some x := by
  have h1 := B.1
  have h2 := Int32.lt_iff_toInt_lt.mp p
  have e0 : c 3 = z := ez
  exact (T.N c ec).2.2.2 f ef _ (by rw [e0]; show (j.toInt.toNat : Int) < _; omega)
end THERE
section CLR
variable {d mid pc pc' : Nat} {ls st : List Value} {h : pm_H} {Q : Option Value → pm_H → Prop} {q : pm_M} {l : List (Nat × Instr × Nat)} {L : Nat} {x y : Int32} {ck : cl_K} {E : Nat → pm_E} {m : Nat → Int32} {o : Nat → Option Nat}
theorem pm_R_tswD (hM : pm_Mt mid q l) {df lo hi : Int} {offs : Array Int} (hf : pm_find l pc = some (.tableswitch df lo hi offs, L)) (hx : x.toInt < lo ∨ hi < x.toInt) (ht : pm_to pc df = some pc') (k : pm_R d mid pc' ls st h Q) : pm_R d mid pc ls (.int x :: st) h Q := by
  refine pm_R_br hM hf (st' := st) ?_ k
  show (if x.toInt < lo ∨ hi < x.toInt then (pm_to pc df).map (fun t => (t, st)) else _) = _
  rw [if_pos hx, ht]
  rfl
theorem cl_R_ist (G : cl_G ck E) (hM : pm_Mt mid q l) (T : cl_T ck E m o h) {a n : Nat} {f : Nat → Int32} {j : Int32} (hf : pm_find l pc = some (.iastore, L)) (hc : h.2.2 a = .inl (0, n, .inl f)) (ha : a = 18 ∨ a = 26 ∨ a = 27 ∨ a = 28 ∨ a = 29 ∨ a = 32 ∨ a = 34 ∨ a = 35 ∨ a = 36 ∨ a = 38 ∨ a = 39 ∨ a = 40) (hC : cl_C ck a (.inl (0, n, .inl (upd f j.toNatClampNeg x)))) (hj : pm_in j n = true) (hp : pc + 1 = pc') (kk : ∀ h', cl_T ck E m o h' → rf_G [a] h h' → h'.2.2 a = .inl (0, n, .inl (upd f j.toNatClampNeg x)) → pm_R d mid pc' ls st h' Q) : pm_R d mid pc ls (.int x :: .int j :: .ref a :: st) h Q :=
  pm_R_iast hM hf hc (by omega) (T.lt (by omega)) hj hp (kk _ (T.arr G ha hC) (rf_G.one _ _ _) cl_set_eq)
theorem cl_R_lst (G : cl_G ck E) (hM : pm_Mt mid q l) (T : cl_T ck E m o h) {a n : Nat} {f : Nat → Int64} {j : Int32} {x : Int64} (hf : pm_find l pc = some (.lastore, L)) (hc : h.2.2 a = .inl (1, n, .inr (.inl f))) (ha : a = 18 ∨ a = 26 ∨ a = 27 ∨ a = 28 ∨ a = 29 ∨ a = 32 ∨ a = 34 ∨ a = 35 ∨ a = 36 ∨ a = 38 ∨ a = 39 ∨ a = 40) (hC : cl_C ck a (.inl (1, n, .inr (.inl (vp_updL f j.toNatClampNeg x))))) (hj : pm_in j n = true) (hp : pc + 1 = pc') (kk : ∀ h', cl_T ck E m o h' → rf_G [a] h h' → h'.2.2 a = .inl (1, n, .inr (.inl (vp_updL f j.toNatClampNeg x))) → pm_R d mid pc' ls st h' Q) : pm_R d mid pc ls (.long x :: .int j :: .ref a :: st) h Q :=
  pm_R_last hM hf hc (by omega) (T.lt (by omega)) hj hp (kk _ (T.arr G ha hC) (rf_G.one _ _ _) cl_set_eq)
theorem cl_R_bst (G : cl_G ck E) (hM : pm_Mt mid q l) (T : cl_T ck E m o h) {a n : Nat} {f : Nat → Int32} {j : Int32} (hf : pm_find l pc = some (.bastore, L)) (hc : h.2.2 a = .inl (2, n, .inl f)) (ha : a = 18 ∨ a = 26 ∨ a = 27 ∨ a = 28 ∨ a = 29 ∨ a = 32 ∨ a = 34 ∨ a = 35 ∨ a = 36 ∨ a = 38 ∨ a = 39 ∨ a = 40) (hC : cl_C ck a (.inl (2, n, .inl (upd f j.toNatClampNeg x.toInt8.toInt32)))) (hj : pm_in j n = true) (hp : pc + 1 = pc') (kk : ∀ h', cl_T ck E m o h' → rf_G [a] h h' → h'.2.2 a = .inl (2, n, .inl (upd f j.toNatClampNeg x.toInt8.toInt32)) → pm_R d mid pc' ls st h' Q) : pm_R d mid pc ls (.int x :: .int j :: .ref a :: st) h Q :=
  pm_R_bast hM hf hc (by omega) (T.lt (by omega)) hj hp (kk _ (T.arr G ha hC) (rf_G.one _ _ _) cl_set_eq)
theorem cl_R_put17 (G : cl_G ck E) (hM : pm_Mt mid q l) (T : cl_T ck E m o h) {ix k j : Nat} {nb : Bool} {qq : vw_C} (hf : pm_find l pc = some (.putfield ix, L)) (hF : pm_at pm_FL q.2.2.2.2 ix = some (8, j, nb)) (hq : pm_cl[8]? = some qq) (hk : j < 9) (hv : pm_fits (pm_ty qq.2.1 j) (.int x) = true) (hfin : (qq.2.1 j).2.2.2 = false) (hb : sf_B (cl_lo k) (cl_hi k) x) (hs : (cl_f17 m).set j (.int x) = cl_f17 (upd m k x)) (q1 : cl_f25 (upd m k x) = cl_f25 m) (q2 : cl_f30 (upd m k x) = cl_f30 m) (q3 : cl_f33 (upd m k x) o = cl_f33 m o) (hp : pc + 3 = pc') (kk : ∀ h' m', m' = upd m k x → cl_T ck E m' o h' → rf_G [17] h h' → pm_R d mid pc' ls st h' Q) : pm_R d mid pc ls (.int x :: .ref 17 :: st) h Q :=
  pm_R_put hM hf hF hq T.e17 (by decide) (T.lt (by decide)) hk hv (Or.inl hfin) hs hp (kk _ _ rfl (T.put17 G hb rfl q1 q2 q3) (rf_G.one _ _ _))
theorem cl_R_put25 (G : cl_G ck E) (hM : pm_Mt mid q l) (T : cl_T ck E m o h) {ix k j : Nat} {nb : Bool} {qq : vw_C} (hf : pm_find l pc = some (.putfield ix, L)) (hF : pm_at pm_FL q.2.2.2.2 ix = some (6, j, nb)) (hq : pm_cl[6]? = some qq) (hk : j < 11) (hv : pm_fits (pm_ty qq.2.1 j) (.int x) = true) (hfin : (qq.2.1 j).2.2.2 = false) (hb : sf_B (cl_lo k) (cl_hi k) x) (hs : (cl_f25 m).set j (.int x) = cl_f25 (upd m k x)) (q1 : cl_f17 (upd m k x) = cl_f17 m) (q2 : cl_f30 (upd m k x) = cl_f30 m) (q3 : cl_f33 (upd m k x) o = cl_f33 m o) (hp : pc + 3 = pc') (kk : ∀ h' m', m' = upd m k x → cl_T ck E m' o h' → rf_G [25] h h' → pm_R d mid pc' ls st h' Q) : pm_R d mid pc ls (.int x :: .ref 25 :: st) h Q :=
  pm_R_put hM hf hF hq T.e25 (by decide) (T.lt (by decide)) hk hv (Or.inl hfin) hs hp (kk _ _ rfl (T.put25 G hb rfl q1 q2 q3) (rf_G.one _ _ _))
theorem cl_R_put30 (G : cl_G ck E) (hM : pm_Mt mid q l) (T : cl_T ck E m o h) {ix k j : Nat} {nb : Bool} {qq : vw_C} (hf : pm_find l pc = some (.putfield ix, L)) (hF : pm_at pm_FL q.2.2.2.2 ix = some (7, j, nb)) (hq : pm_cl[7]? = some qq) (hk : j < 6) (hv : pm_fits (pm_ty qq.2.1 j) (.int x) = true) (hfin : (qq.2.1 j).2.2.2 = false) (hb : sf_B (cl_lo k) (cl_hi k) x) (hs : (cl_f30 m).set j (.int x) = cl_f30 (upd m k x)) (q1 : cl_f17 (upd m k x) = cl_f17 m) (q2 : cl_f25 (upd m k x) = cl_f25 m) (q3 : cl_f33 (upd m k x) o = cl_f33 m o) (hp : pc + 3 = pc') (kk : ∀ h' m', m' = upd m k x → cl_T ck E m' o h' → rf_G [30] h h' → pm_R d mid pc' ls st h' Q) : pm_R d mid pc ls (.int x :: .ref 30 :: st) h Q :=
  pm_R_put hM hf hF hq T.e30 (by decide) (T.lt (by decide)) hk hv (Or.inl hfin) hs hp (kk _ _ rfl (T.put30 G hb rfl q1 q2 q3) (rf_G.one _ _ _))
theorem cl_R_put33 (G : cl_G ck E) (hM : pm_Mt mid q l) (T : cl_T ck E m o h) {ix k j : Nat} {nb : Bool} {qq : vw_C} (hf : pm_find l pc = some (.putfield ix, L)) (hF : pm_at pm_FL q.2.2.2.2 ix = some (9, j, nb)) (hq : pm_cl[9]? = some qq) (hk : j < 7) (hv : pm_fits (pm_ty qq.2.1 j) (.int x) = true) (hfin : (qq.2.1 j).2.2.2 = false) (hb : sf_B (cl_lo k) (cl_hi k) x) (hs : (cl_f33 m o).set j (.int x) = cl_f33 (upd m k x) o) (q1 : cl_f17 (upd m k x) = cl_f17 m) (q2 : cl_f25 (upd m k x) = cl_f25 m) (q3 : cl_f30 (upd m k x) = cl_f30 m) (hp : pc + 3 = pc') (kk : ∀ h' m', m' = upd m k x → cl_T ck E m' o h' → rf_G [33] h h' → pm_R d mid pc' ls st h' Q) : pm_R d mid pc ls (.int x :: .ref 33 :: st) h Q :=
  pm_R_put hM hf hF hq T.e33 (by decide) (T.lt (by decide)) hk hv (Or.inl hfin) hs hp (kk _ _ rfl (T.put33 G hb rfl q1 q2 q3) (rf_G.one _ _ _))
end CLR
theorem cl_gap {r : Int32} {a b : Int} (X : r = -1 ∨ 1 ≤ r.toInt) (p : ¬ r = -1) (B : sf_B a b r) : sf_B 1 b r := by
  rcases X with z | z
  · exact absurd z p
  · exact ⟨z, B.2⟩
theorem cl_rowN {E : Nat → pm_E} {r a b : Nat} {x y : Int32} (h1 : E r = .inr (5, [.int x, .ref a])) (h2 : E r = .inr (5, [.int y, .ref b])) : x = y := by
  rw [h1] at h2
  injection h2 with h2
  injection h2 with h3 h4
  injection h4 with h5 h6
  injection h5
section CLM
variable {d mid pc pc' : Nat} {ls st : List Value} {h : pm_H} {Q : Option Value → pm_H → Prop} {q : pm_M} {l : List (Nat × Instr × Nat)} {L : Nat} {x y : Int32} {a b c e : Int}
theorem cl_R_max (hM : pm_Mt mid q l) {ix : Nat} (hf : pm_find l pc = some (.invokestatic ix, L)) (hn : pm_at pm_CL q.2.2.2.2 ix = none) (hX : pm_at pm_XL q.2.2.2.2 ix = some 4) (hs : (st.map fun v => v.category).sum ≤ 8) (hp : pc + 3 = pc') (hx : sf_B a b x) (hy : sf_B c e y) (kk : ∀ z : Int32, sf_B (max a c) (max b e) z → pm_R d mid pc' ls (.int z :: st) h Q) : pm_R d mid pc ls (.int y :: .int x :: st) h Q := by
  have h1 := hx.1; have h2 := hx.2; have h3 := hy.1; have h4 := hy.2
  refine pm_R_nat hM hf rfl hn (st' := .int (if x < y then y else x) :: st) (h' := h) ?_ hp (kk _ ?_)
  · show (pm_at pm_XL _ ix).bind _ = _
    rw [hX]
    show (if _ then _ else _) = _
    rw [if_pos hs]
  · by_cases hc : x < y
    · rw [if_pos hc]
      have := Int32.lt_iff_toInt_lt.mp hc
      unfold sf_B; omega
    · rw [if_neg hc]
      have := Int32.le_iff_toInt_le.mp (Int32.not_lt.mp hc)
      unfold sf_B; omega
theorem cl_R_min (hM : pm_Mt mid q l) {ix : Nat} (hf : pm_find l pc = some (.invokestatic ix, L)) (hn : pm_at pm_CL q.2.2.2.2 ix = none) (hX : pm_at pm_XL q.2.2.2.2 ix = some 3) (hs : (st.map fun v => v.category).sum ≤ 8) (hp : pc + 3 = pc') (hx : sf_B a b x) (hy : sf_B c e y) (kk : ∀ z : Int32, sf_B (min a c) (min b e) z → pm_R d mid pc' ls (.int z :: st) h Q) : pm_R d mid pc ls (.int y :: .int x :: st) h Q := by
  have h1 := hx.1; have h2 := hx.2; have h3 := hy.1; have h4 := hy.2
  refine pm_R_nat hM hf rfl hn (st' := .int (if y < x then y else x) :: st) (h' := h) ?_ hp (kk _ ?_)
  · show (pm_at pm_XL _ ix).bind _ = _
    rw [hX]
    show (if _ then _ else _) = _
    rw [if_pos hs]
  · by_cases hc : y < x
    · rw [if_pos hc]
      have := Int32.lt_iff_toInt_lt.mp hc
      unfold sf_B; omega
    · rw [if_neg hc]
      have := Int32.le_iff_toInt_le.mp (Int32.not_lt.mp hc)
      unfold sf_B; omega
theorem cl_R_minl (hM : pm_Mt mid q l) {ix : Nat} {x y : Int64} (hf : pm_find l pc = some (.invokestatic ix, L)) (hn : pm_at pm_CL q.2.2.2.2 ix = none) (hX : pm_at pm_XL q.2.2.2.2 ix = some 5) (hs : (st.map fun v => v.category).sum ≤ 8) (hp : pc + 3 = pc') (kk : ∀ z : Int64, pm_R d mid pc' ls (.long z :: st) h Q) : pm_R d mid pc ls (.long y :: .long x :: st) h Q := by
  refine pm_R_nat hM hf rfl hn (st' := .long (if y < x then y else x) :: st) (h' := h) ?_ hp (kk _)
  show (pm_at pm_XL _ ix).bind _ = _
  rw [hX]
  show (if _ then _ else _) = _
  rw [if_pos hs]
end CLM
theorem cl_ok1 {ck : cl_K} {E : Nat → pm_E} {m : Nat → Int32} {o : Nat → Option Nat} {h : pm_H} {a : Nat} (T : cl_T ck E m o h) (hk : ck a = 1) : (∀ b, va_up o 1 (some a) 0 = some b → ck b = 22) ∧ (∀ b, va_up o 1 (some a) 1 = some b → ck b = 1) ∧ (∀ b, va_up o 1 (some a) 2 = some b → ck b = 7) := ⟨T.oo.1, fun b hb => by cases hb; exact hk, T.oo.2.2⟩
theorem cl_ok2 {ck : cl_K} {E : Nat → pm_E} {m : Nat → Int32} {o : Nat → Option Nat} {h : pm_H} {a : Nat} (T : cl_T ck E m o h) (hk : ck a = 7) : (∀ b, va_up o 2 (some a) 0 = some b → ck b = 22) ∧ (∀ b, va_up o 2 (some a) 1 = some b → ck b = 1) ∧ (∀ b, va_up o 2 (some a) 2 = some b → ck b = 7) := ⟨T.oo.1, T.oo.2.1, fun b hb => by cases hb; exact hk⟩
theorem cl_og1 {ck : cl_K} {E : Nat → pm_E} {m : Nat → Int32} {o : Nat → Option Nat} {h : pm_H} (G : cl_G ck E) (T : cl_T ck E m o h) : ∀ b, o 1 = some b → 16 ≤ b := fun b hb => G.ge (T.oo.2.1 b hb) (by decide)
theorem cl_og2 {ck : cl_K} {E : Nat → pm_E} {m : Nat → Int32} {o : Nat → Option Nat} {h : pm_H} (G : cl_G ck E) (T : cl_T ck E m o h) : ∀ b, o 2 = some b → 16 ≤ b := fun b hb => G.ge (T.oo.2.2 b hb) (by decide)
theorem cl_T.puto33 {ck : cl_K} {E : Nat → pm_E} {m : Nat → Int32} {o o' : Nat → Option Nat} {h : pm_H} (G : cl_G ck E) (T : cl_T ck E m o h) {fs : List Value} (q0 : fs = cl_f33 m o') (h0 : o' 0 = o 0) (hO : (∀ b, o' 0 = some b → ck b = 22) ∧ (∀ b, o' 1 = some b → ck b = 1) ∧ (∀ b, o' 2 = some b → ck b = 7)) : cl_T ck E m o' (pm_set h 33 (.inr (9, fs))) := by
  have q16 : cl_f16 o' = cl_f16 o := by unfold cl_f16; rw [h0]
  refine ⟨T.1, by rw [cl_set_ne (by omega), q16]; exact T.e16, by rw [cl_set_ne (by omega)]; exact T.e17, by rw [cl_set_ne (by omega)]; exact T.e25, by rw [cl_set_ne (by omega)]; exact T.e30, by rw [cl_set_ne (by omega)]; exact T.e31, by rw [cl_set_eq, q0], T.B, fun b b1 b2 => ?_, ?_, T.2.2.2.2.2.2.2.2.2.2.1, fun b b1 b2 => ?_, cl_D.low G T.D (fun b hb => cl_set_ne (by omega)), hO, fun b hb => by rw [cl_set_ne (by omega)]; exact T.old hb⟩
  · by_cases e : b = 33
    · subst e; exact trivial
    · rw [cl_set_ne e]; exact T.C b b1 b2
  · rw [cl_set_ne (by omega), cl_set_ne (by omega), cl_set_ne (by omega), cl_set_ne (by omega), cl_set_ne (by omega)]; exact T.N
  · have := G.1 b (by omega)
    rw [cl_set_ne (by omega)]; exact T.2.2.2.2.2.2.2.2.2.2.2.1 b b1 b2
section CLO
variable {d mid pc pc' : Nat} {ls st : List Value} {h : pm_H} {Q : Option Value → pm_H → Prop} {q : pm_M} {l : List (Nat × Instr × Nat)} {L : Nat} {ck : cl_K} {E : Nat → pm_E} {m : Nat → Int32} {o : Nat → Option Nat}
theorem cl_R_puto33 (G : cl_G ck E) (hM : pm_Mt mid q l) (T : cl_T ck E m o h) {ix k j a : Nat} {nb : Bool} {qq : vw_C} (hf : pm_find l pc = some (.putfield ix, L)) (hF : pm_at pm_FL q.2.2.2.2 ix = some (9, j, nb)) (hq : pm_cl[9]? = some qq) (hk : j < 7) (hv : pm_fits (pm_ty qq.2.1 j) (.ref a) = true) (hfin : (qq.2.1 j).2.2.2 = false) (hO : (∀ b, va_up o k (some a) 0 = some b → ck b = 22) ∧ (∀ b, va_up o k (some a) 1 = some b → ck b = 1) ∧ (∀ b, va_up o k (some a) 2 = some b → ck b = 7)) (hs : (cl_f33 m o).set j (.ref a) = cl_f33 m (va_up o k (some a))) (h0 : va_up o k (some a) 0 = o 0) (hp : pc + 3 = pc') (kk : ∀ h' o', o' = va_up o k (some a) → cl_T ck E m o' h' → rf_G [33] h h' → pm_R d mid pc' ls st h' Q) : pm_R d mid pc ls (.ref a :: .ref 33 :: st) h Q :=
  pm_R_put hM hf hF hq T.e33 (by decide) (T.lt (by decide)) hk hv (Or.inl hfin) hs hp (kk _ _ rfl (T.puto33 G rfl h0 hO) (rf_G.one _ _ _))
theorem cl_R_acmp (hM : pm_Mt mid q l) {off : Int} {x : Option Nat} {a t : Nat} (hf : pm_find l pc = some (.if_acmp .ne off, L)) (ht : pm_to pc off = some t) (hp : pc + 3 = pc') (ha : 16 ≤ a) (hx : ∀ b, x = some b → 16 ≤ b) (kt : ¬ x = some a → pm_R d mid t ls st h Q) (kf : x = some a → pm_R d mid pc' ls st h Q) : pm_R d mid pc ls (.ref a :: va_rf x :: st) h Q := by
  subst hp
  have e1 : pm_ref (.ref a) = some (some a) := by show (if 16 ≤ a then some (some a) else none) = _; rw [if_pos ha]
  have e2 : pm_ref (va_rf x) = some x := by
    cases x with
    | none => rfl
    | some b => show (if 16 ≤ b then some (some b) else none) = _; rw [if_pos (hx b rfl)]
  have e : pm_br (.if_acmp .ne off) pc (.ref a :: va_rf x :: st) = pm_if (¬ x = some a) inferInstance pc off st := by
    show (pm_ref (.ref a)).bind (fun b => (pm_ref (va_rf x)).bind (fun a => pm_if (¬ a = b) inferInstance pc off st)) = _
    rw [e1, e2]
    rfl
  have e3 : pm_if (¬ x = some a) inferInstance pc off st = some (if ¬ x = some a then t else pc + 3, st) := by
    unfold pm_if
    rw [ht]
    rfl
  refine pm_R_br hM hf (e.trans e3) ?_
  by_cases hc : x = some a
  · rw [if_neg (fun z => z hc)]; exact kf hc
  · rw [if_pos hc]; exact kt hc
end CLO
theorem sf_subN {x y z : Int32} {a b : Int} (e : z.toInt = x.toInt - y.toInt) (p : x < y) (B : sf_B a b z) : sf_B a (-1) z := by
  have := Int32.lt_iff_toInt_lt.mp p
  have := B.1
  unfold sf_B; omega
theorem sf_subP {x y z : Int32} {a b : Int} (e : z.toInt = x.toInt - y.toInt) (p : y ≤ x) (B : sf_B a b z) : sf_B 0 b z := by
  have := Int32.le_iff_toInt_le.mp p
  have := B.2
  unfold sf_B; omega
theorem cl_getD {l : List Int32} {lo hi : Int} (h : ∀ x ∈ l, lo ≤ x.toInt ∧ x.toInt ≤ hi) (h0 : lo ≤ 0) (h1 : 0 ≤ hi) (j : Nat) : sf_B lo hi (l.getD j 0) := by
  have e0 : (0 : Int32).toInt = 0 := rfl
  rw [List.getD_eq_getElem?_getD]
  cases hq : l[j]? with
  | none => exact ⟨by show lo ≤ (0 : Int32).toInt; omega, by show (0 : Int32).toInt ≤ hi; omega⟩
  | some x => exact h x (List.mem_of_getElem? hq)
theorem cl_sv1 (j : Nat) : sf_B 0 3 (pm_sv1.getD j 0) := cl_getD (by decide) (by decide) (by decide) j
theorem cl_sv2 (j : Nat) : sf_B 0 3 (pm_sv2.getD j 0) := cl_getD (by decide) (by decide) (by decide) j
theorem cl_sv3 (j : Nat) : sf_B 0 49 (pm_sv3.getD j 0) := cl_getD (by decide) (by decide) (by decide) j
theorem cl_sv4 (j : Nat) : sf_B 0 50 (pm_sv4.getD j 0) := cl_getD (by decide) (by decide) (by decide) j
theorem cl_sv5 (j : Nat) : sf_B 0 10000 (pm_sv5.getD j 0) := cl_getD (by decide) (by decide) (by decide) j
theorem cl_sv6 (j : Nat) : sf_B 0 1110 (pm_sv6.getD j 0) := cl_getD (by decide) (by decide) (by decide) j
section CLTB
variable {ck : cl_K} {E : Nat → pm_E}
theorem cl_G.S (G : cl_G ck E) : cl_S E := G.2.2.2.2.2.2.2.2
theorem cl_G.tb1 (G : cl_G ck E) : E 1 = .inl (0, 4, .inl (fun j => pm_sv1.getD j 0)) := G.S.1
theorem cl_G.tb2 (G : cl_G ck E) : E 2 = .inl (0, 13, .inl (fun j => pm_sv2.getD j 0)) := G.S.2.1
theorem cl_G.tb3 (G : cl_G ck E) : E 3 = .inl (0, 39, .inl (fun j => pm_sv3.getD j 0)) := G.S.2.2.1
theorem cl_G.tb4 (G : cl_G ck E) : E 4 = .inl (0, 13, .inl (fun j => pm_sv4.getD j 0)) := G.S.2.2.2.1
theorem cl_G.tb5 (G : cl_G ck E) : E 5 = .inl (0, 5, .inl (fun j => pm_sv5.getD j 0)) := G.S.2.2.2.2.1
theorem cl_G.tb6 (G : cl_G ck E) : E 6 = .inl (0, 5, .inl (fun j => pm_sv6.getD j 0)) := G.S.2.2.2.2.2.1
end CLTB
/-- an array that a method makes for itself -/
def cl_t (ck : cl_K) (t : Nat) (h : pm_H) : Prop := 72 ≤ t ∧ ck t = 0 ∧ t < h.1
theorem cl_t.F {ck : cl_K} {t : Nat} {A : List Nat} {n s : Nat} {h h' : pm_H} (x : cl_t ck t h) (F : cl_F ck A n s h h') : cl_t ck t h' := ⟨x.1, x.2.1, Nat.lt_of_lt_of_le x.2.2 F.2.1⟩
theorem cl_F.tmp {ck : cl_K} {t : Nat} {A : List Nat} {n s : Nat} {h h' : pm_H} {x : pm_E} (F : cl_F ck A n s h h') (ht : cl_t ck t h) (hA : t ∉ A) (e : h.2.2 t = x) : h'.2.2 t = x := (F.2.2.2.2 t ht.2.2 hA (by rw [ht.2.1]; decide)).trans e
theorem cl_tA {ck : cl_K} {t : Nat} {A : List Nat} {h : pm_H} (ht : cl_t ck t h) (hA : ∀ k ∈ A, k < 72) : t ∉ A := fun z => by have := hA t z; have := ht.1; omega
theorem cl_nin1 {t u : Nat} (h : t ≠ u) : t ∉ [u] := fun z => h (List.mem_singleton.mp z)
theorem cl_F.transT {ck : cl_K} {A : List Nat} {n s : Nat} {u : Nat} {h h1 h2 : pm_H} (x : cl_F ck A n s h h1) (y : cl_F ck [u] 0 0 h1 h2) (hu : h.1 ≤ u) : cl_F ck A n s h h2 := by
  obtain ⟨x0, x1, x2, x3, x4⟩ := x
  obtain ⟨y0, y1, y2, y3, y4⟩ := y
  exact ⟨x0, by omega, by omega, by omega, fun a a1 a2 a3 => (y4 a (by omega) (fun z => by have := List.mem_singleton.mp z; omega) a3).trans (x4 a a1 a2 a3)⟩
theorem cl_T.push {ck : cl_K} {E : Nat → pm_E} {m : Nat → Int32} {o : Nat → Option Nat} {h : pm_H} (G : cl_G ck E) (T : cl_T ck E m o h) (c : pm_E) (k : Nat) : cl_T ck E m o (pm_push h c k) := by
  have g : ∀ b, b < h.1 → (pm_push h c k).2.2 b = h.2.2 b := fun b hb => by
    have : b ≠ h.1 := by omega
    simp [pm_push, va_up, this]
  have h72 := T.1
  have gk : ∀ b, ck b ≠ 0 → (pm_push h c k).2.2 b = h.2.2 b := fun b hb => g b (T.al rfl hb)
  have D := T.D
  refine ⟨Nat.le_succ_of_le T.1, by rw [g 16 (by omega)]; exact T.e16, by rw [g 17 (by omega)]; exact T.e17, by rw [g 25 (by omega)]; exact T.e25, by rw [g 30 (by omega)]; exact T.e30, by rw [g 31 (by omega)]; exact T.e31, by rw [g 33 (by omega)]; exact T.e33, T.B, fun b b1 b2 => by rw [g b (by omega)]; exact T.C b b1 b2, ?_, fun b hb => Nat.lt_succ_of_lt (T.al rfl hb), fun b b1 b2 => by rw [gk b (by omega)]; exact T.im rfl b1 b2 rfl, ?_, T.oo, fun b hb => by rw [g b (by omega)]; exact T.old hb⟩
  · rw [g 19 (by omega), g 20 (by omega), g 21 (by omega), g 22 (by omega), g 23 (by omega)]; exact T.N
  · obtain ⟨d1, d2, d3, d4, d5, d6, d7, d8⟩ := D
    refine ⟨fun a ha => ?_, fun a ha => ?_, fun a ha => ?_, fun a ha => ?_, fun a ha => ?_, fun a ha => ?_, fun a ha => ?_, fun a ha => ?_⟩
    · obtain ⟨q1, q2, q3, q4, q5, q6⟩ := G.2.2.2.2.2.1 a ha
      have hx := d1 a ha
      rw [← gk a (by omega), ← gk (a + 1) (by omega), ← gk (a + 2) (by omega), ← gk (a + 3) (by omega), ← gk (a + 4) (by omega), ← gk (a + 5) (by omega), ← gk (a + 6) (by omega)] at hx
      exact hx
    · rw [gk a (by omega)]; exact d2 a ha
    · rw [gk a (by omega)]; exact d3 a ha
    · rw [gk a (by omega)]; exact d4 a ha
    · rw [gk a (by omega)]; exact d5 a ha
    · rw [gk a (by omega)]; exact d6 a ha
    · rw [gk a (by omega)]; exact d7 a ha
    · rw [gk a (by omega)]; exact d8 a ha
section CLTM
variable {d mid pc pc' : Nat} {ls st : List Value} {h : pm_H} {Q : Option Value → pm_H → Prop} {q : pm_M} {l : List (Nat × Instr × Nat)} {L : Nat} {x : Int32} {ck : cl_K} {E : Nat → pm_E} {m : Nat → Int32} {o : Nat → Option Nat}
theorem cl_R_newa (G : cl_G ck E) (hM : pm_Mt mid q l) (T : cl_T ck E m o h) {N : Nat} {n : Int32} (hf : pm_find l pc = some (.newarray .int, L)) (hn : ¬ n < 0) (hN : n.toNatClampNeg = N) (hb : N ≤ 67108864) (hp : pc + 2 = pc') (kk : ∀ t h', cl_T ck E m o h' → cl_F ck [] 1 N h h' → cl_t ck t h' → h.1 = t → h'.2.2 t = .inl (0, N, .inl (fun _ => (0 : Int32))) → pm_R d mid pc' ls (.ref t :: st) h' Q) : pm_R d mid pc ls (.int n :: st) h Q := by
  have h72 := T.1
  refine pm_R_newa hM hf rfl hn hN hb hp (kk h.1 _ (T.push G _ _) ⟨h72, Nat.le_succ _, Nat.le_refl _, Nat.le_refl _, fun a ha _ _ => ?_⟩ ⟨h72, ?_, Nat.lt_succ_self _⟩ rfl ?_)
  · have : a ≠ h.1 := by omega
    simp [pm_push, va_up, this]
  · by_cases z : ck h.1 = 0
    · exact z
    · have := T.al rfl z; omega
  · simp [pm_push, va_up, pm_newty]
theorem cl_R_tst (G : cl_G ck E) (hM : pm_Mt mid q l) (T : cl_T ck E m o h) {t n : Nat} {f : Nat → Int32} {j : Int32} (hf : pm_find l pc = some (.iastore, L)) (hc : h.2.2 t = .inl (0, n, .inl f)) (ht : cl_t ck t h) (hj : pm_in j n = true) (hp : pc + 1 = pc') (kk : ∀ h', cl_T ck E m o h' → cl_F ck [t] 0 0 h h' → h'.2.2 t = .inl (0, n, .inl (upd f j.toNatClampNeg x)) → pm_R d mid pc' ls st h' Q) : pm_R d mid pc ls (.int x :: .int j :: .ref t :: st) h Q :=
  pm_R_iast hM hf hc (Nat.le_trans (by decide) ht.1) ht.2.2 hj hp (kk _ (T.tmp G ht.1 ht.2.1) ((rf_G.one _ _ _).cl T.1) cl_set_eq)
end CLTM
theorem cl_tne {ck : cl_K} {t u : Nat} {h h' : pm_H} (x : cl_t ck t h) (hu : h.1 = u) : t ≠ u := by have := x.2.2; omega
theorem cl_sign {fd : Nat → Int32} {k j0 j2 : Nat} {z0 z2 : Int32} {a b : Int} (hc : (fd (4 * k)).toInt = 2 → 0 ≤ (fd (4 * k + 2)).toInt) (h0 : j0 = 4 * k + 0) (e0 : fd j0 = z0) (p : z0 = 2) (h2 : j2 = 4 * k + 2) (e2 : fd j2 = z2) (B : sf_B a b z2) (hb : b ≤ 9) : sf_B 0 9 z2 := by
  subst h0; subst h2
  have e3 : fd (4 * k) = z0 := e0
  have := hc (by rw [e3, p]; rfl)
  rw [e2] at this
  have := B.2
  unfold sf_B; omega
