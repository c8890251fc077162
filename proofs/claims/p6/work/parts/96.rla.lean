/-! WHAT BOTH SIDES WERE TOLD: the same -/
/-- the object t of the class and row k of the reference -/
def teq (S : ex_S) (t k : Nat) : Prop := (∀ j, j < 600 → S.1 (t + 1) j = S.1 42 (600 * k + j)) ∧ (∀ j, 1 ≤ j → j ≤ 3 → S.1 t j = S.1 (42 + j) k) ∧ ∀ s, s < 4 → S.1 (t + 6) s = S.1 46 (4 * k + s)
def R1 (S : ex_S) : Prop := teq S 17 0 ∧ (∀ i b, i < 3 → S.2.2.1 24 i = some b → 72 ≤ b ∧ teq S b (i + 1)) ∧ (∀ i, i < 3 → (S.2.2.1 24 i = none ↔ S.1 71 i = 0)) ∧ ∀ i, sf_B (-128) 127 (S.1 42 i)
/-- object t becomes what a was; row t what f was -/
def blkEq (S S' : ex_S) (a t : Nat) : Prop := (∀ j, j < 600 → S'.1 (t + 1) j = S.1 (a + 1) j) ∧ (∀ j, 1 ≤ j → j ≤ 3 → S'.1 t j = S.1 a j) ∧ ∀ s, s < 4 → S'.1 (t + 6) s = S.1 (a + 6) s
def rowEq (S S' : ex_S) (f t : Nat) : Prop := (∀ j, j < 600 → S'.1 42 (600 * t + j) = S.1 42 (600 * f + j)) ∧ (∀ j, 1 ≤ j → j ≤ 3 → S'.1 (42 + j) t = S.1 (42 + j) f) ∧ ∀ s, s < 4 → S'.1 46 (4 * t + s) = S.1 46 (4 * f + s)
theorem teq.mk' {S S' : ex_S} {a t f r : Nat} (h : teq S a f) (b : blkEq S S' a t) (w : rowEq S S' f r) : teq S' t r :=
  ⟨fun j hj => by rw [b.1 j hj, w.1 j hj]; exact h.1 j hj, fun j h1 h3 => by rw [b.2.1 j h1 h3, w.2.1 j h1 h3]; exact h.2.1 j h1 h3, fun s hs => by rw [b.2.2 s hs, w.2.2 s hs]; exact h.2.2 s hs⟩
theorem blkEq.trans {S T U : ex_S} {a b c : Nat} (x : blkEq S T a b) (y : blkEq T U b c) : blkEq S U a c :=
  ⟨fun j hj => (y.1 j hj).trans (x.1 j hj), fun j h1 h3 => (y.2.1 j h1 h3).trans (x.2.1 j h1 h3), fun s hs => (y.2.2 s hs).trans (x.2.2 s hs)⟩
theorem rowEq.trans {S T U : ex_S} {a b c : Nat} (x : rowEq S T a b) (y : rowEq T U b c) : rowEq S U a c :=
  ⟨fun j hj => (y.1 j hj).trans (x.1 j hj), fun j h1 h3 => (y.2.1 j h1 h3).trans (x.2.1 j h1 h3), fun s hs => (y.2.2 s hs).trans (x.2.2 s hs)⟩
theorem blkEq.of {S S' : ex_S} {t : Nat} (h : ∀ c j, t ≤ c → c < t + 7 → S'.1 c j = S.1 c j) : blkEq S S' t t :=
  ⟨fun j _ => h _ _ (by omega) (by omega), fun j _ _ => h _ _ (by omega) (by omega), fun s _ => h _ _ (by omega) (by omega)⟩
theorem rowEq.of {S S' : ex_S} {k : Nat} (h : ∀ c j, 42 ≤ c → c ≤ 46 → S'.1 c j = S.1 c j) : rowEq S S' k k :=
  ⟨fun j _ => h _ _ (by omega) (by omega), fun j _ _ => h _ _ (by omega) (by omega), fun s _ => h _ _ (by omega) (by omega)⟩
/-- nothing that was told has changed -/
theorem R1.keep {S S' : ex_S} (R : R1 S) (h : ∀ c j, (17 ≤ c ∧ c ≤ 23) ∨ (42 ≤ c ∧ c ≤ 46) ∨ c = 71 → S'.1 c j = S.1 c j) (h24 : ∀ i, S'.2.2.1 24 i = S.2.2.1 24 i) (im : ∀ i b, i < 3 → S.2.2.1 24 i = some b → ∀ c j, b ≤ c → c < b + 7 → S'.1 c j = S.1 c j) : R1 S' := by
  refine ⟨R.1.mk' (blkEq.of (fun c j _ _ => h c j (by omega))) (rowEq.of (fun c j _ _ => h c j (by omega))), fun i b hi eb => ?_, fun i hi => ?_, fun i => ?_⟩
  · rw [h24] at eb
    obtain ⟨b72, te⟩ := R.2.1 i b hi eb
    exact ⟨b72, te.mk' (blkEq.of (fun c j c1 c2 => im i b hi eb c j c1 c2)) (rowEq.of (fun c j _ _ => h c j (by omega)))⟩
  · rw [h24, h 71 i (by omega)]; exact R.2.2.1 i hi
  · rw [h 42 i (by omega)]; exact R.2.2.2 i
theorem fwi_out {T : Nat → Int32} {n : Nat} {a : Int32} {i j : Nat} (h : n + i ≤ j) : fwi T n a i j = T j := by
  unfold fwi
  rw [if_neg (fun z => by omega)]
theorem fw5_out {T : Nat → Int32} {n : Nat} {a0 a1 a2 a3 a4 : Int32} {j : Nat} (h : n + 20 ≤ j) : fw5 T n a0 a1 a2 a3 a4 j = T j := by
  unfold fw5
  rw [fwi_out (by omega), fwi_out (by omega), fwi_out (by omega), fwi_out (by omega), fwi_out (by omega)]
theorem fb_B (a x : Int32) : sf_B (-128) 127 (fb a x) := by
  unfold fb
  generalize ((a >>> (x &&& 31)).toInt8.toInt32).toInt8 = y
  have h1 := y.le_toInt
  have h2 := y.toInt_lt
  unfold sf_B
  rw [Int8.toInt_toInt32]
  omega
theorem fwi_B {T : Nat → Int32} {n : Nat} {a : Int32} {i j : Nat} (h : sf_B (-128) 127 (T j)) : sf_B (-128) 127 (fwi T n a i j) := by
  unfold fwi
  split
  · exact fb_B _ _
  · exact h
theorem fw5_B {T : Nat → Int32} {n : Nat} {a0 a1 a2 a3 a4 : Int32} {j : Nat} (h : sf_B (-128) 127 (T j)) : sf_B (-128) 127 (fw5 T n a0 a1 a2 a3 a4 j) := fwi_B (fwi_B (fwi_B (fwi_B (fwi_B h))))
theorem R_feed {a0 a1 a2 a3 a4 v w : Int32} {S S1 S2 : ex_S} {n : Nat} (e : S.1 17 1 = Int32.ofNat n) (hn : n ≤ 600) (R : R1 S) (h1 : fF 18 17 1 a0 a1 a2 a3 a4 S v S1) (h2 : fF 42 43 0 a0 a1 a2 a3 a4 S1 w S2) : v = w ∧ R1 S2 := by
  obtain ⟨F1, g1⟩ := h1
  obtain ⟨F2, g2⟩ := h2
  have k1 : ∀ a k, ¬ a = 18 → ¬ (a = 17 ∧ k = 1) → ¬ a = 41 → S1.1 a k = S.1 a k := fun a k z1 z2 z3 => F1.1 a k (by unfold fP; omega)
  have k2 : ∀ a k, ¬ a = 42 → ¬ (a = 43 ∧ k = 0) → ¬ a = 41 → S2.1 a k = S1.1 a k := fun a k z1 z2 z3 => F2.1 a k (by unfold fP; omega)
  have kk : ∀ a k, ¬ a = 18 → ¬ a = 42 → ¬ (a = 17 ∧ k = 1) → ¬ (a = 43 ∧ k = 0) → ¬ a = 41 → S2.1 a k = S.1 a k := fun a k z1 z2 z3 z4 z5 => (k2 a k z2 z4 z5).trans (k1 a k z1 z3 z5)
  have e17 : S.1 17 1 = S.1 43 0 := R.1.2.1 1 (by omega) (by omega)
  have e2 : S1.1 43 0 = Int32.ofNat n := by rw [k1 43 0 (by omega) (by omega) (by omega), ← e17]; exact e
  have g1 := g1 n e hn
  have g2 := g2 n e2 hn
  have c42 : S1.1 42 = S.1 42 := by funext j; exact k1 42 j (by omega) (by omega) (by omega)
  have fin : (∀ j, 600 ≤ j → S2.1 42 j = S.1 42 j) → (∀ i, sf_B (-128) 127 (S2.1 42 i)) → (∀ j, j < 600 → S2.1 18 j = S2.1 42 j) → S2.1 17 1 = S2.1 43 0 → R1 S2 := by
    intro o b t s
    refine ⟨⟨fun j hj => ?_, fun j j1 j3 => ?_, fun x hx => ?_⟩, fun i b hi eb => ?_, fun i hi => ?_, b⟩
    · rw [show 600 * 0 + j = j by omega]; exact t j hj
    · by_cases q : j = 1
      · subst q; exact s
      · rw [kk 17 j (by omega) (by omega) (by omega) (by omega) (by omega), kk (42 + j) 0 (by omega) (by omega) (by omega) (by omega) (by omega)]
        exact R.1.2.1 j j1 j3
    · rw [kk (17 + 6) x (by omega) (by omega) (by omega) (by omega) (by omega), kk 46 _ (by omega) (by omega) (by omega) (by omega) (by omega)]
      exact R.1.2.2 x hx
    · rw [F2.2, F1.2] at eb
      obtain ⟨b72, te⟩ := R.2.1 i b hi eb
      refine ⟨b72, te.mk' (blkEq.of (fun c j c1 _ => kk c j (by omega) (by omega) (by omega) (by omega) (by omega))) ⟨fun j _ => o _ (by omega), fun j j1 j3 => kk _ _ (by omega) (by omega) (by omega) (by omega) (by omega), fun s _ => kk _ _ (by omega) (by omega) (by omega) (by omega) (by omega)⟩⟩
    · rw [F2.2, F1.2, kk 71 i (by omega) (by omega) (by omega) (by omega) (by omega)]; exact R.2.2.1 i hi
  by_cases q : n ≤ 580
  · obtain ⟨v1, s1, t1⟩ := g1.1 q
    obtain ⟨w1, s2, t2⟩ := g2.1 q
    rw [c42] at t2
    refine ⟨v1.trans w1.symm, fin (fun j hj => by rw [t2, fw5_out (by omega)]) (fun i => by rw [t2]; exact fw5_B (R.2.2.2 i)) (fun j hj => ?_) ?_⟩
    · have z := R.1.1 j hj
      rw [show 600 * 0 + j = j by omega] at z
      rw [k2 18 j (by omega) (by omega) (by omega), t1, t2]
      exact fw5_cg z
    · rw [k2 17 1 (by omega) (by omega) (by omega), s1, s2]
  · obtain ⟨v1, s1, t1⟩ := g1.2 q
    obtain ⟨w1, s2, t2⟩ := g2.2 q
    rw [c42] at t2
    refine ⟨v1.trans w1.symm, fin (fun j hj => t2 j) (fun i => by rw [t2]; exact R.2.2.2 i) (fun j hj => ?_) ?_⟩
    · have z := R.1.1 j hj
      rw [show 600 * 0 + j = j by omega] at z
      rw [k2 18 j (by omega) (by omega) (by omega), t1, t2]
      exact z
    · rw [k2 17 1 (by omega) (by omega) (by omega), s1, s2, k1 43 0 (by omega) (by omega) (by omega)]
      exact e17
theorem R_end {a v w : Int32} {S S1 S2 : ex_S} (R : R1 S) (h1 : eE 17 1 a S v S1) (h2 : eE 43 0 a S1 w S2) : v = w ∧ R1 S2 := by
  obtain ⟨F1, y1, n1⟩ := h1
  obtain ⟨F2, y2, n2⟩ := h2
  have k1 : ∀ a k, ¬ (a = 17 ∧ k = 1) → ¬ a = 41 → S1.1 a k = S.1 a k := fun a k z2 z3 => F1.1 a k (by omega)
  have k2 : ∀ a k, ¬ (a = 43 ∧ k = 0) → ¬ a = 41 → S2.1 a k = S1.1 a k := fun a k z2 z3 => F2.1 a k (by omega)
  have k : ∀ a k, ¬ (a = 17 ∧ k = 1) → ¬ (a = 43 ∧ k = 0) → ¬ a = 41 → S2.1 a k = S.1 a k := fun a j z1 z2 z3 => (k2 a j z2 z3).trans (k1 a j z1 z3)
  have e17 : S.1 17 1 = S.1 43 0 := R.1.2.1 1 (by omega) (by omega)
  have e2 : S1.1 43 0 = S.1 17 1 := by rw [k1 43 0 (by omega) (by omega)]; exact e17.symm
  rw [e2] at y2 n2
  have fin : S2.1 17 1 = S2.1 43 0 → R1 S2 := by
    intro z
    refine ⟨⟨fun j hj => ?_, fun j j1 j3 => ?_, fun s hs => ?_⟩, fun i b hi eb => ?_, fun i hi => ?_, fun i => ?_⟩
    · rw [k (17 + 1) _ (by omega) (by omega) (by omega), k 42 _ (by omega) (by omega) (by omega)]; exact R.1.1 j hj
    · by_cases q : j = 1
      · subst q; exact z
      · rw [k 17 j (by omega) (by omega) (by omega), k (42 + j) 0 (by omega) (by omega) (by omega)]; exact R.1.2.1 j j1 j3
    · rw [k (17 + 6) _ (by omega) (by omega) (by omega), k 46 _ (by omega) (by omega) (by omega)]; exact R.1.2.2 s hs
    · rw [F2.2, F1.2] at eb
      obtain ⟨b72, te⟩ := R.2.1 i b hi eb
      exact ⟨b72, te.mk' (blkEq.of (fun c j c1 _ => k c j (by omega) (by omega) (by omega))) ⟨fun j _ => k _ _ (by omega) (by omega) (by omega), fun j j1 j3 => k _ _ (by omega) (by omega) (by omega), fun s _ => k _ _ (by omega) (by omega) (by omega)⟩⟩
    · rw [F2.2, F1.2, k 71 i (by omega) (by omega) (by omega)]; exact R.2.2.1 i hi
    · rw [k 42 i (by omega) (by omega) (by omega)]; exact R.2.2.2 i
  have s17 : S2.1 17 1 = S1.1 17 1 := k2 17 1 (by omega) (by omega)
  by_cases q : 0 ≤ a ∧ a ≤ S.1 17 1
  · obtain ⟨v1, s1⟩ := y1 q
    obtain ⟨w1, s2⟩ := y2 q
    exact ⟨v1.trans w1.symm, fin (by rw [s17, s1, s2])⟩
  · obtain ⟨v1, s1⟩ := n1 q
    obtain ⟨w1, s2⟩ := n2 q
    exact ⟨v1.trans w1.symm, fin (by rw [s17, s1, s2])⟩
