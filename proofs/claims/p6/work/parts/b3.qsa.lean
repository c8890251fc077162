/-! QUESTIONS that tell what is stored: list, rule, reading, row, law -/
theorem i_nl {a b : Int32} (h : a < b) : ¬ b ≤ a := Int32.not_le.mpr h
theorem i_ge {a b : Int32} (h : ¬ a < b) : b ≤ a := Int32.not_lt.mp h
def q61 (a0 a1 : Int32) (S : ex_S) (v : Int32) (S' : ex_S) : Prop := S' = S ∧ (¬ (0 ≤ a0 ∧ a0 < S.1 23 0) → v = -1) ∧ ∀ b, 0 ≤ a0 → a0 < S.1 23 0 → S.2.2.1 19 a0.toNatClampNeg = some b → (a1 = 0 → v = S.1 b 0) ∧ (a1 = 1 → v = S.1 b 2) ∧ (10 ≤ a1 ∧ a1 < 20 → ∀ b', S.2.2.1 b 4 = some b' → v = S.1 b' ((a1 - 10).toNatClampNeg)) ∧ (¬ a1 = 0 → ¬ a1 = 1 → ¬ (10 ≤ a1 ∧ a1 < 20) → v = -1)
theorem ec61 : es61 q61 := by
  refine ev61 ?_ ?_ ?_ ?_ ?_ ?_ ?_ ?_
  · intro a0 a1 S c
    exact ⟨rfl, fun _ => rfl, fun b h => absurd h (i_nl c)⟩
  · intro a0 a1 S c c2 b e n0 n1 c3
    exact ⟨rfl, fun z => absurd ⟨i_ge c, c2⟩ z, fun b' h1 h2 e' => ⟨fun z => absurd z n0, fun z => absurd z n1, fun z => absurd z.1 (i_nl c3), fun _ _ _ => rfl⟩⟩
  · intro a0 a1 S c c2 b e n0 n1 c3 c4
    exact ⟨rfl, fun z => absurd ⟨i_ge c, c2⟩ z, fun b' h1 h2 e' => ⟨fun z => absurd z n0, fun z => absurd z n1, fun z => absurd c4 (i_nl z.2), fun _ _ _ => rfl⟩⟩
  · intro a0 a1 S c c2 b e n0 n1 c3 c4 b2 e2
    refine ⟨rfl, fun z => absurd ⟨i_ge c, c2⟩ z, fun b' h1 h2 e' => ?_⟩
    rw [e] at e'; cases e'
    refine ⟨fun z => absurd z n0, fun z => absurd z n1, fun z b3 e3 => ?_, fun _ _ z => absurd ⟨i_ge c3, Int32.not_le.mp c4⟩ z⟩
    rw [e2] at e3; cases e3
    rfl
  · intro a0 a1 S c c2 b e n0 n1
    have n1 := Classical.not_not.mp n1
    refine ⟨rfl, fun z => absurd ⟨i_ge c, c2⟩ z, fun b' h1 h2 e' => ?_⟩
    rw [e] at e'; cases e'
    exact ⟨fun z => absurd z n0, fun _ => rfl, fun z => absurd (n1 ▸ z.1) (by decide), fun _ z => absurd n1 z⟩
  · intro a0 a1 S c c2 b e n0
    have n0 := Classical.not_not.mp n0
    refine ⟨rfl, fun z => absurd ⟨i_ge c, c2⟩ z, fun b' h1 h2 e' => ?_⟩
    rw [e] at e'; cases e'
    exact ⟨fun _ => rfl, fun z => absurd (n0.symm.trans z) (by decide), fun z => absurd (n0 ▸ z.1) (by decide), fun z => absurd n0 z⟩
  · intro a0 a1 S c c2 e
    refine ⟨rfl, fun _ => rfl, fun b' h1 h2 e' => ?_⟩
    rw [e] at e'; cases e'
  · intro a0 a1 S c c2
    exact ⟨rfl, fun _ => rfl, fun b h1 h2 => absurd h2 c2⟩
def r195 (a0 a1 : Int32) (S : ex_S) (v : Int32) (_S' : ex_S) : Prop := (¬ (0 ≤ a0 ∧ a0 ≤ S.1 46 0 - 1) → v = -1) ∧ (0 ≤ a0 ∧ a0 ≤ S.1 46 0 - 1 → (0 ≤ a1 ∧ a1 ≤ 1 → v = S.1 47 ((100 * a0 + a1).toNatClampNeg)) ∧ (10 ≤ a1 ∧ a1 ≤ 19 → v = S.1 47 (((100 * a0) + ((90 + a1) - 10)).toNatClampNeg)) ∧ (¬ (0 ≤ a1 ∧ a1 ≤ 1) → ¬ (10 ≤ a1 ∧ a1 ≤ 19) → v = -1))
theorem ec195 : es195 r195 := by
  refine ev195 ?_ ?_ ?_ ?_ ?_ ?_
  · intro a0 a1 S c
    exact ⟨fun _ => rfl, fun h => absurd h (vf174_n c)⟩
  · intro a0 a1 S c c1 c2
    exact absurd (Int32.le_trans c2 (vf174_y c1).2) (by decide)
  · intro a0 a1 S c c1 c2
    exact ⟨fun z => absurd (vf174_y c) z, fun _ => ⟨fun _ => rfl, fun h => absurd (Int32.le_trans h.1 (vf174_y c1).2) (by decide), fun z => absurd (vf174_y c1) z⟩⟩
  · intro a0 a1 S c c1 c2
    exact ⟨fun z => absurd (vf174_y c) z, fun _ => ⟨fun h => absurd h (vf174_n (Classical.not_not.mp c1)), fun h => absurd h (vf174_n c2), fun _ _ => rfl⟩⟩
  · intro a0 a1 S c c1 c2 c3
    exact ⟨fun z => absurd (vf174_y c) z, fun _ => ⟨fun h => absurd h (vf174_n (Classical.not_not.mp c1)), fun _ => rfl, fun _ z => absurd (vf174_y c2) z⟩⟩
  · intro a0 a1 S c c1 c2 c3
    exact absurd (Int32.le_trans (show (2 : Int32) ≤ 10 by decide) (vf174_y c2).1) c3
/-- rule and reading: cl the count's place, rf the rows' -/
def q63 (cl rf : Nat) (mx : Int32) (a0 a1 a2 : Int32) (S : ex_S) (v : Int32) (S' : ex_S) : Prop := S' = S ∧ (¬ (0 ≤ a0 ∧ a0 < S.1 23 0) → v = -1) ∧ ∀ b, 0 ≤ a0 → a0 < S.1 23 0 → S.2.2.1 19 a0.toNatClampNeg = some b → (¬ ((0 ≤ a1 ∧ a1 < S.1 b cl) ∧ 0 ≤ a2 ∧ a2 ≤ mx) → v = -1) ∧ ((0 ≤ a1 ∧ a1 < S.1 b cl) ∧ 0 ≤ a2 ∧ a2 ≤ mx → ∀ b', S.2.2.1 b rf = some b' → v = S.1 b' (((a1 * 4) + a2).toNatClampNeg))
theorem ec63 : es63 (q63 0 1 3) := by
  refine ev63 ?_ ?_ ?_ ?_ ?_ ?_ ?_ ?_
  · intro a0 a1 a2 S c
    exact ⟨rfl, fun _ => rfl, fun b h => absurd h (i_nl c)⟩
  · intro a0 a1 a2 S c c2 e
    refine ⟨rfl, fun _ => rfl, fun b' h1 h2 e' => ?_⟩
    rw [e] at e'; cases e'
  · intro a0 a1 a2 S c c2 b e c3
    refine ⟨rfl, fun _ => rfl, fun b' h1 h2 e' => ?_⟩
    exact ⟨fun _ => rfl, fun z => absurd z.1.1 (i_nl c3)⟩
  · intro a0 a1 a2 S c c2 b e c3 c4
    refine ⟨rfl, fun _ => rfl, fun b' h1 h2 e' => ?_⟩
    rw [e] at e'; cases e'
    exact ⟨fun _ => rfl, fun z => absurd c4 (i_nl z.1.2)⟩
  · intro a0 a1 a2 S c c2 b e c3 c4 c5
    refine ⟨rfl, fun _ => rfl, fun b' h1 h2 e' => ?_⟩
    exact ⟨fun _ => rfl, fun z => absurd z.2.1 (i_nl c5)⟩
  · intro a0 a1 a2 S c c2 b e c3 c4 c5 c6 b2 e2
    refine ⟨rfl, fun z => absurd ⟨i_ge c, c2⟩ z, fun b' h1 h2 e' => ?_⟩
    rw [e] at e'; cases e'
    refine ⟨fun z => absurd ⟨⟨i_ge c3, Int32.not_le.mp c4⟩, i_ge c5, c6⟩ z, fun _ b3 e3 => ?_⟩
    rw [e2] at e3; cases e3
    rfl
  · intro a0 a1 a2 S c c2 b e c3 c4 c5 c6
    refine ⟨rfl, fun _ => rfl, fun b' h1 h2 e' => ?_⟩
    exact ⟨fun _ => rfl, fun z => absurd z.2.2 c6⟩
  · intro a0 a1 a2 S c c2
    exact ⟨rfl, fun _ => rfl, fun b h1 h2 => absurd h2 c2⟩
theorem ec64 : es64 (q63 2 3 2) := by
  refine ev64 ?_ ?_ ?_ ?_ ?_ ?_ ?_ ?_
  · intro a0 a1 a2 S c
    exact ⟨rfl, fun _ => rfl, fun b h => absurd h (i_nl c)⟩
  · intro a0 a1 a2 S c c2 e
    refine ⟨rfl, fun _ => rfl, fun b' h1 h2 e' => ?_⟩
    rw [e] at e'; cases e'
  · intro a0 a1 a2 S c c2 b e c3
    refine ⟨rfl, fun _ => rfl, fun b' h1 h2 e' => ?_⟩
    exact ⟨fun _ => rfl, fun z => absurd z.1.1 (i_nl c3)⟩
  · intro a0 a1 a2 S c c2 b e c3 c4
    refine ⟨rfl, fun _ => rfl, fun b' h1 h2 e' => ?_⟩
    rw [e] at e'; cases e'
    exact ⟨fun _ => rfl, fun z => absurd c4 (i_nl z.1.2)⟩
  · intro a0 a1 a2 S c c2 b e c3 c4 c5
    refine ⟨rfl, fun _ => rfl, fun b' h1 h2 e' => ?_⟩
    exact ⟨fun _ => rfl, fun z => absurd z.2.1 (i_nl c5)⟩
  · intro a0 a1 a2 S c c2 b e c3 c4 c5 c6 b2 e2
    refine ⟨rfl, fun z => absurd ⟨i_ge c, c2⟩ z, fun b' h1 h2 e' => ?_⟩
    rw [e] at e'; cases e'
    refine ⟨fun z => absurd ⟨⟨i_ge c3, Int32.not_le.mp c4⟩, i_ge c5, c6⟩ z, fun _ b3 e3 => ?_⟩
    rw [e2] at e3; cases e3
    rfl
  · intro a0 a1 a2 S c c2 b e c3 c4 c5 c6
    refine ⟨rfl, fun _ => rfl, fun b' h1 h2 e' => ?_⟩
    exact ⟨fun _ => rfl, fun z => absurd z.2.2 c6⟩
  · intro a0 a1 a2 S c c2
    exact ⟨rfl, fun _ => rfl, fun b h1 h2 => absurd h2 c2⟩
def r196 (a0 a1 a2 : Int32) (S : ex_S) (v : Int32) (_S' : ex_S) : Prop := (¬ (0 ≤ a0 ∧ a0 ≤ S.1 46 0 - 1) → v = -1) ∧ (0 ≤ a0 ∧ a0 ≤ S.1 46 0 - 1 → (¬ ((0 ≤ a1 ∧ a1 ≤ S.1 47 ((100 * a0).toNatClampNeg) - 1) ∧ 0 ≤ a2 ∧ a2 ≤ 3) → v = -1) ∧ ((0 ≤ a1 ∧ a1 ≤ S.1 47 ((100 * a0).toNatClampNeg) - 1) ∧ 0 ≤ a2 ∧ a2 ≤ 3 → v = S.1 47 (((((100 * a0) + 2) + (4 * a1)) + a2).toNatClampNeg)))
theorem ec196 : es196 r196 := by
  refine ev196 ?_ ?_ ?_ ?_
  · intro a0 a1 a2 S c
    exact ⟨fun _ => rfl, fun h => absurd h (vf174_n c)⟩
  · intro a0 a1 a2 S c c1
    exact ⟨fun z => absurd (vf174_y c) z, fun _ => ⟨fun _ => rfl, fun h => absurd h.1 (vf174_n c1)⟩⟩
  · intro a0 a1 a2 S c c1 c2
    exact ⟨fun z => absurd (vf174_y c) z, fun _ => ⟨fun _ => rfl, fun h => absurd h.2 (vf174_n c2)⟩⟩
  · intro a0 a1 a2 S c c1 c2
    exact ⟨fun z => absurd (vf174_y c) z, fun _ => ⟨fun z => absurd ⟨vf174_y c1, vf174_y c2⟩ z, fun _ => rfl⟩⟩
def r197 (a0 a1 a2 : Int32) (S : ex_S) (v : Int32) (_S' : ex_S) : Prop := (¬ (0 ≤ a0 ∧ a0 ≤ S.1 46 0 - 1) → v = -1) ∧ (0 ≤ a0 ∧ a0 ≤ S.1 46 0 - 1 → (¬ ((0 ≤ a1 ∧ a1 ≤ S.1 47 ((100 * a0 + 1).toNatClampNeg) - 1) ∧ 0 ≤ a2 ∧ a2 ≤ 2) → v = -1) ∧ ((0 ≤ a1 ∧ a1 ≤ S.1 47 ((100 * a0 + 1).toNatClampNeg) - 1) ∧ 0 ≤ a2 ∧ a2 ≤ 2 → v = S.1 47 (((((100 * a0) + 42) + (3 * a1)) + a2).toNatClampNeg)))
theorem ec197 : es197 r197 := by
  refine ev197 ?_ ?_ ?_ ?_
  · intro a0 a1 a2 S c
    exact ⟨fun _ => rfl, fun h => absurd h (vf174_n c)⟩
  · intro a0 a1 a2 S c c1
    exact ⟨fun z => absurd (vf174_y c) z, fun _ => ⟨fun _ => rfl, fun h => absurd h.1 (vf174_n c1)⟩⟩
  · intro a0 a1 a2 S c c1 c2
    exact ⟨fun z => absurd (vf174_y c) z, fun _ => ⟨fun _ => rfl, fun h => absurd h.2 (vf174_n c2)⟩⟩
  · intro a0 a1 a2 S c c1 c2
    exact ⟨fun z => absurd (vf174_y c) z, fun _ => ⟨fun z => absurd ⟨vf174_y c1, vf174_y c2⟩ z, fun _ => rfl⟩⟩
def q65 (a0 a1 : Int32) (S : ex_S) (v : Int32) (S' : ex_S) : Prop := S' = S ∧ (¬ (0 ≤ a0 ∧ a0 < S.1 23 1) → v = -2) ∧ ∀ b, 0 ≤ a0 → a0 < S.1 23 1 → S.2.2.1 20 a0.toNatClampNeg = some b → (a1 = -1 → v = S.1 b 0) ∧ (¬ a1 = -1 → (¬ (0 ≤ a1 ∧ a1 < S.1 b 0) → v = -2) ∧ (0 ≤ a1 ∧ a1 < S.1 b 0 → ∀ b', S.2.2.1 b 1 = some b' → v = S.1 b' a1.toNatClampNeg))
theorem ec65 : es65 q65 := by
  refine ev65 ?_ ?_ ?_ ?_ ?_ ?_ ?_
  · intro a0 a1 S c
    exact ⟨rfl, fun _ => rfl, fun b h => absurd h (i_nl c)⟩
  · intro a0 a1 S c c2 b e n c3
    exact ⟨rfl, fun _ => rfl, fun b' h1 h2 e' => ⟨fun z => absurd z n, fun _ => ⟨fun _ => rfl, fun z => absurd z.1 (i_nl c3)⟩⟩⟩
  · intro a0 a1 S c c2 b e n c3 c4
    refine ⟨rfl, fun _ => rfl, fun b' h1 h2 e' => ?_⟩
    rw [e] at e'; cases e'
    exact ⟨fun z => absurd z n, fun _ => ⟨fun _ => rfl, fun z => absurd c4 (i_nl z.2)⟩⟩
  · intro a0 a1 S c c2 b e n c3 c4 b2 e2
    refine ⟨rfl, fun z => absurd ⟨i_ge c, c2⟩ z, fun b' h1 h2 e' => ?_⟩
    rw [e] at e'; cases e'
    refine ⟨fun z => absurd z n, fun _ => ⟨fun z => absurd ⟨i_ge c3, Int32.not_le.mp c4⟩ z, fun _ b3 e3 => ?_⟩⟩
    rw [e2] at e3; cases e3
    rfl
  · intro a0 a1 S c c2 b e n
    have n := Classical.not_not.mp n
    refine ⟨rfl, fun z => absurd ⟨i_ge c, c2⟩ z, fun b' h1 h2 e' => ?_⟩
    rw [e] at e'; cases e'
    exact ⟨fun _ => rfl, fun z => absurd n z⟩
  · intro a0 a1 S c c2 e
    refine ⟨rfl, fun _ => rfl, fun b' h1 h2 e' => ?_⟩
    rw [e] at e'; cases e'
  · intro a0 a1 S c c2
    exact ⟨rfl, fun _ => rfl, fun b h1 h2 => absurd h2 c2⟩
def r198 (a0 a1 : Int32) (S : ex_S) (v : Int32) (_S' : ex_S) : Prop := (¬ (0 ≤ a0 ∧ a0 ≤ S.1 46 1 - 1) → v = -2) ∧ (0 ≤ a0 ∧ a0 ≤ S.1 46 1 - 1 → (a1 = -1 → v = S.1 48 ((13 * a0).toNatClampNeg)) ∧ (¬ a1 = -1 → (¬ (0 ≤ a1 ∧ a1 ≤ S.1 48 ((13 * a0).toNatClampNeg) - 1) → v = -2) ∧ (0 ≤ a1 ∧ a1 ≤ S.1 48 ((13 * a0).toNatClampNeg) - 1 → v = S.1 48 ((((13 * a0) + 1) + a1).toNatClampNeg))))
theorem ec198 : es198 r198 := by
  refine ev198 ?_ ?_ ?_ ?_
  · intro a0 a1 S c n c1
    exact ⟨fun z => absurd (vf174_y c) z, fun _ => ⟨fun z => absurd z n, fun _ => ⟨fun _ => rfl, fun z => absurd z (vf174_n c1)⟩⟩⟩
  · intro a0 a1 S c n c1
    exact ⟨fun z => absurd (vf174_y c) z, fun _ => ⟨fun z => absurd z n, fun _ => ⟨fun z => absurd (vf174_y c1) z, fun _ => rfl⟩⟩⟩
  · intro a0 a1 S c n
    have n := Classical.not_not.mp n
    exact ⟨fun z => absurd (vf174_y c) z, fun _ => ⟨fun _ => rfl, fun z => absurd n z⟩⟩
  · intro a0 a1 S c
    exact ⟨fun _ => rfl, fun h => absurd h (vf174_n (Classical.not_not.mp c))⟩
def q162 (a0 a1 a2 : Int32) (S : ex_S) (v : Int32) (S' : ex_S) : Prop := S' = S ∧ (¬ ((0 ≤ a0 ∧ a0 < S.1 23 3) ∧ 0 ≤ a2 ∧ a2 ≤ 2) → v = -2) ∧ ∀ b, (0 ≤ a0 ∧ a0 < S.1 23 3) ∧ 0 ≤ a2 ∧ a2 ≤ 2 → S.2.2.1 22 a0.toNatClampNeg = some b → (a1 = -1 → (¬ a2 = 0 → v = -2) ∧ (a2 = 0 → v = S.1 b 0)) ∧ (¬ a1 = -1 → (¬ (0 ≤ a1 ∧ a1 < S.1 b 0) → v = -2) ∧ (0 ≤ a1 ∧ a1 < S.1 b 0 → ∀ b', S.2.2.1 b 1 = some b' → v = S.1 b' (((a1 * 4) + a2).toNatClampNeg)))
theorem ec162 : es162 q162 := by
  refine ev162 ?_ ?_ ?_ ?_ ?_ ?_ ?_ ?_ ?_ ?_
  · intro a0 a1 a2 S c
    exact ⟨rfl, fun _ => rfl, fun b h => absurd h.1.1 (i_nl c)⟩
  · intro a0 a1 a2 S c c2 e
    refine ⟨rfl, fun _ => rfl, fun b' h e' => ?_⟩
    rw [e] at e'; cases e'
  · intro a0 a1 a2 S c c2 b e c3
    exact ⟨rfl, fun _ => rfl, fun b h => absurd h.2.1 (i_nl c3)⟩
  · intro a0 a1 a2 S c c2 b e c3 c4 n c5
    exact ⟨rfl, fun _ => rfl, fun b' h e' => ⟨fun z => absurd z n, fun _ => ⟨fun _ => rfl, fun z => absurd z.1 (i_nl c5)⟩⟩⟩
  · intro a0 a1 a2 S c c2 b e c3 c4 n c5 c6 b2 e2
    refine ⟨rfl, fun z => absurd ⟨⟨i_ge c, c2⟩, i_ge c3, c4⟩ z, fun b' h e' => ?_⟩
    rw [e] at e'; cases e'
    refine ⟨fun z => absurd z n, fun _ => ⟨fun z => absurd ⟨i_ge c5, c6⟩ z, fun _ b3 e3 => ?_⟩⟩
    rw [e2] at e3; cases e3
    rfl
  · intro a0 a1 a2 S c c2 b e c3 c4 n c5 c6
    refine ⟨rfl, fun _ => rfl, fun b' h e' => ?_⟩
    rw [e] at e'; cases e'
    exact ⟨fun z => absurd z n, fun _ => ⟨fun _ => rfl, fun z => absurd z.2 c6⟩⟩
  · intro a0 a1 a2 S c c2 b e c3 c4 n n2
    have n := Classical.not_not.mp n
    exact ⟨rfl, fun _ => rfl, fun b' h e' => ⟨fun _ => ⟨fun _ => rfl, fun z => absurd z n2⟩, fun z => absurd n z⟩⟩
  · intro a0 a1 a2 S c c2 b e c3 c4 n n2
    have n := Classical.not_not.mp n
    have n2 := Classical.not_not.mp n2
    refine ⟨rfl, fun z => absurd ⟨⟨i_ge c, c2⟩, i_ge c3, c4⟩ z, fun b' h e' => ?_⟩
    rw [e] at e'; cases e'
    exact ⟨fun _ => ⟨fun z => absurd n2 z, fun _ => rfl⟩, fun z => absurd n z⟩
  · intro a0 a1 a2 S c c2 b e c3 c4
    exact ⟨rfl, fun _ => rfl, fun b h => absurd h.2.2 c4⟩
  · intro a0 a1 a2 S c c2
    exact ⟨rfl, fun _ => rfl, fun b h => absurd h.1.2 c2⟩
def r271 (a0 a1 a2 : Int32) (S : ex_S) (v : Int32) (_S' : ex_S) : Prop := (¬ (0 ≤ a0 ∧ a0 ≤ S.1 46 3 - 1) → v = -2) ∧ (0 ≤ a0 ∧ a0 ≤ S.1 46 3 - 1 → (a1 = -1 → (¬ a2 = 0 → v = -2) ∧ (a2 = 0 → v = S.1 50 ((25 * a0).toNatClampNeg))) ∧ (¬ a1 = -1 → (¬ ((0 ≤ a1 ∧ a1 ≤ S.1 50 ((25 * a0).toNatClampNeg) - 1) ∧ 0 ≤ a2 ∧ a2 ≤ 2) → v = -2) ∧ ((0 ≤ a1 ∧ a1 ≤ S.1 50 ((25 * a0).toNatClampNeg) - 1) ∧ 0 ≤ a2 ∧ a2 ≤ 2 → v = S.1 50 (((((25 * a0) + 1) + (3 * a1)) + a2).toNatClampNeg))))
theorem ec271 : es271 r271 := by
  refine ev271 ?_ ?_ ?_ ?_ ?_ ?_
  · intro a0 a1 a2 S c n c1
    exact ⟨fun z => absurd (vf174_y c) z, fun _ => ⟨fun z => absurd z n, fun _ => ⟨fun _ => rfl, fun z => absurd z.1 (vf174_n c1)⟩⟩⟩
  · intro a0 a1 a2 S c n c1 c2
    exact ⟨fun z => absurd (vf174_y c) z, fun _ => ⟨fun z => absurd z n, fun _ => ⟨fun _ => rfl, fun z => absurd z.2 (vf174_n c2)⟩⟩⟩
  · intro a0 a1 a2 S c n c1 c2
    exact ⟨fun z => absurd (vf174_y c) z, fun _ => ⟨fun z => absurd z n, fun _ => ⟨fun z => absurd ⟨vf174_y c1, vf174_y c2⟩ z, fun _ => rfl⟩⟩⟩
  · intro a0 a1 a2 S c n n2
    have n := Classical.not_not.mp n
    exact ⟨fun z => absurd (vf174_y c) z, fun _ => ⟨fun _ => ⟨fun _ => rfl, fun z => absurd z n2⟩, fun z => absurd n z⟩⟩
  · intro a0 a1 a2 S c n n2
    have n := Classical.not_not.mp n
    have n2 := Classical.not_not.mp n2
    exact ⟨fun z => absurd (vf174_y c) z, fun _ => ⟨fun _ => ⟨fun z => absurd n2 z, fun _ => rfl⟩, fun z => absurd n z⟩⟩
  · intro a0 a1 a2 S c
    exact ⟨fun _ => rfl, fun h => absurd h (vf174_n (Classical.not_not.mp c))⟩
