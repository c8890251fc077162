section
/-! QUESTIONS that tell what is stored: list, rule, reading, row, law -/
theorem i_nl {a b : Int32} (h : a < b) : ¬ b ≤ a := Int32.not_le.mpr h
theorem i_ge {a b : Int32} (h : ¬ a < b) : b ≤ a := Int32.not_lt.mp h
def q61 (a0 a1 : Int32) (S : ex_S) (v : Int32) (S_q : ex_S) : Prop := S_q = S ∧ (¬ (0 ≤ a0 ∧ a0 < S.1 23 0) → v = -1) ∧ ∀ b, 0 ≤ a0 → a0 < S.1 23 0 → S.2.2.1 19 a0.toNatClampNeg = some b → (a1 = 0 → v = S.1 b 0) ∧ (a1 = 1 → v = S.1 b 2) ∧ (10 ≤ a1 ∧ a1 < 20 → ∀ b_q, S.2.2.1 b 4 = some b_q → v = S.1 b_q ((a1 - 10).toNatClampNeg)) ∧ (¬ a1 = 0 → ¬ a1 = 1 → ¬ (10 ≤ a1 ∧ a1 < 20) → v = -1)
theorem ec61 : es61 q61 := by
  refine ev61 ?_ ?_ ?_ ?_ ?_ ?_ ?_ ?_
  · intro a0 a1 S c
    exact ⟨rfl, fun _ => rfl, fun b h => absurd h (i_nl c)⟩
  · intro a0 a1 S c c2 b e n0 n1 c3
    exact ⟨rfl, fun z => absurd ⟨i_ge c, c2⟩ z, fun b_q h1 h2 e_q => ⟨fun z => absurd z n0, fun z => absurd z n1, fun z => absurd z.1 (i_nl c3), fun _ _ _ => rfl⟩⟩
  · intro a0 a1 S c c2 b e n0 n1 c3 c4
    exact ⟨rfl, fun z => absurd ⟨i_ge c, c2⟩ z, fun b_q h1 h2 e_q => ⟨fun z => absurd z n0, fun z => absurd z n1, fun z => absurd c4 (i_nl z.2), fun _ _ _ => rfl⟩⟩
  · intro a0 a1 S c c2 b e n0 n1 c3 c4 b2 e2
    refine ⟨rfl, fun z => absurd ⟨i_ge c, c2⟩ z, fun b_q h1 h2 e_q => ?_⟩
    rw [e] at e_q; cases e_q
    refine ⟨fun z => absurd z n0, fun z => absurd z n1, fun z b3 e3 => ?_, fun _ _ z => absurd ⟨i_ge c3, Int32.not_le.mp c4⟩ z⟩
    rw [e2] at e3; cases e3
    rfl
  · intro a0 a1 S c c2 b e n0 n1
    have n1 := Classical.not_not.mp n1
    refine ⟨rfl, fun z => absurd ⟨i_ge c, c2⟩ z, fun b_q h1 h2 e_q => ?_⟩
    rw [e] at e_q; cases e_q
    exact ⟨fun z => absurd z n0, fun _ => rfl, fun z => absurd (n1 ▸ z.1) (by decide), fun _ z => absurd n1 z⟩
  · intro a0 a1 S c c2 b e n0
    have n0 := Classical.not_not.mp n0
    refine ⟨rfl, fun z => absurd ⟨i_ge c, c2⟩ z, fun b_q h1 h2 e_q => ?_⟩
    rw [e] at e_q; cases e_q
    exact ⟨fun _ => rfl, fun z => absurd (n0.symm.trans z) (by decide), fun z => absurd (n0 ▸ z.1) (by decide), fun z => absurd n0 z⟩
  · intro a0 a1 S c c2 e
    refine ⟨rfl, fun _ => rfl, fun b_q h1 h2 e_q => ?_⟩
    rw [e] at e_q; cases e_q
  · intro a0 a1 S c c2
    exact ⟨rfl, fun _ => rfl, fun b h1 h2 => absurd h2 c2⟩
def r195 (a0 a1 : Int32) (S : ex_S) (v : Int32) (_S' : ex_S) : Prop := (¬ (0 ≤ a0 ∧ a0 ≤ S.1 46 0 - 1) → v = -1) ∧ (0 ≤ a0 ∧ a0 ≤ S.1 46 0 - 1 → (0 ≤ a1 ∧ a1 ≤ 1 → v = S.1 47 ((100 * a0 + a1).toNatClampNeg)) ∧ (10 ≤ a1 ∧ a1 ≤ 19 → v = S.1 47 (((100 * a0) + ((90 + a1) - 10)).toNatClampNeg)) ∧ (¬ (0 ≤ a1 ∧ a1 ≤ 1) → ¬ (10 ≤ a1 ∧ a1 ≤ 19) → v = -1))
theorem ec195 : es195 r195 := by
  refine ev195 ?_ ?_ ?_ ?_ ?_ ?_
  · intro a0 a1 S c
    exact ⟨fun _ => rfl, fun h => absurd h (vf174_n c)⟩
  · intro a0 a1 S c c1 c2
    exact absurd (Int32.le_trans c2 (vf174_y c1).2) (by decide)
  · intro a0 a1 S c c1 c2
    exact ⟨fun z => absurd (vf174_y c) z, fun _ => ⟨fun _ => rfl, fun h => absurd (Int32.le_trans h.1 (vf174_y c1).2) (by decide), fun z => absurd (vf174_y c1) z⟩⟩
  · intro a0 a1 S c c1 c2
    exact ⟨fun z => absurd (vf174_y c) z, fun _ => ⟨fun h => absurd h (vf174_n (Classical.not_not.mp c1)), fun h => absurd h (vf174_n c2), fun _ _ => rfl⟩⟩
  · intro a0 a1 S c c1 c2 c3
    exact ⟨fun z => absurd (vf174_y c) z, fun _ => ⟨fun h => absurd h (vf174_n (Classical.not_not.mp c1)), fun _ => rfl, fun _ z => absurd (vf174_y c2) z⟩⟩
  · intro a0 a1 S c c1 c2 c3
    exact absurd (Int32.le_trans (show (2 : Int32) ≤ 10 by decide) (vf174_y c2).1) c3
/-- rule and reading: cl the count's place, rf the rows' -/
def q63 (cl rf : Nat) (mx : Int32) (a0 a1 a2 : Int32) (S : ex_S) (v : Int32) (S_q : ex_S) : Prop := S_q = S ∧ (¬ (0 ≤ a0 ∧ a0 < S.1 23 0) → v = -1) ∧ ∀ b, 0 ≤ a0 → a0 < S.1 23 0 → S.2.2.1 19 a0.toNatClampNeg = some b → (¬ ((0 ≤ a1 ∧ a1 < S.1 b cl) ∧ 0 ≤ a2 ∧ a2 ≤ mx) → v = -1) ∧ ((0 ≤ a1 ∧ a1 < S.1 b cl) ∧ 0 ≤ a2 ∧ a2 ≤ mx → ∀ b_q, S.2.2.1 b rf = some b_q → v = S.1 b_q (((a1 * 4) + a2).toNatClampNeg))
theorem ec63 : es63 (q63 0 1 3) := by
  refine ev63 ?_ ?_ ?_ ?_ ?_ ?_ ?_ ?_
  · intro a0 a1 a2 S c
    exact ⟨rfl, fun _ => rfl, fun b h => absurd h (i_nl c)⟩
  · intro a0 a1 a2 S c c2 e
    refine ⟨rfl, fun _ => rfl, fun b_q h1 h2 e_q => ?_⟩
    rw [e] at e_q; cases e_q
  · intro a0 a1 a2 S c c2 b e c3
    refine ⟨rfl, fun _ => rfl, fun b_q h1 h2 e_q => ?_⟩
    exact ⟨fun _ => rfl, fun z => absurd z.1.1 (i_nl c3)⟩
  · intro a0 a1 a2 S c c2 b e c3 c4
    refine ⟨rfl, fun _ => rfl, fun b_q h1 h2 e_q => ?_⟩
    rw [e] at e_q; cases e_q
    exact ⟨fun _ => rfl, fun z => absurd c4 (i_nl z.1.2)⟩
  · intro a0 a1 a2 S c c2 b e c3 c4 c5
    refine ⟨rfl, fun _ => rfl, fun b_q h1 h2 e_q => ?_⟩
    exact ⟨fun _ => rfl, fun z => absurd z.2.1 (i_nl c5)⟩
  · intro a0 a1 a2 S c c2 b e c3 c4 c5 c6 b2 e2
    refine ⟨rfl, fun z => absurd ⟨i_ge c, c2⟩ z, fun b_q h1 h2 e_q => ?_⟩
    rw [e] at e_q; cases e_q
    refine ⟨fun z => absurd ⟨⟨i_ge c3, Int32.not_le.mp c4⟩, i_ge c5, c6⟩ z, fun _ b3 e3 => ?_⟩
    rw [e2] at e3; cases e3
    rfl
  · intro a0 a1 a2 S c c2 b e c3 c4 c5 c6
    refine ⟨rfl, fun _ => rfl, fun b_q h1 h2 e_q => ?_⟩
    exact ⟨fun _ => rfl, fun z => absurd z.2.2 c6⟩
  · intro a0 a1 a2 S c c2
    exact ⟨rfl, fun _ => rfl, fun b h1 h2 => absurd h2 c2⟩
theorem ec64 : es64 (q63 2 3 2) := by
  refine ev64 ?_ ?_ ?_ ?_ ?_ ?_ ?_ ?_
  · intro a0 a1 a2 S c
    exact ⟨rfl, fun _ => rfl, fun b h => absurd h (i_nl c)⟩
  · intro a0 a1 a2 S c c2 e
    refine ⟨rfl, fun _ => rfl, fun b_q h1 h2 e_q => ?_⟩
    rw [e] at e_q; cases e_q
  · intro a0 a1 a2 S c c2 b e c3
    refine ⟨rfl, fun _ => rfl, fun b_q h1 h2 e_q => ?_⟩
    exact ⟨fun _ => rfl, fun z => absurd z.1.1 (i_nl c3)⟩
  · intro a0 a1 a2 S c c2 b e c3 c4
    refine ⟨rfl, fun _ => rfl, fun b_q h1 h2 e_q => ?_⟩
    rw [e] at e_q; cases e_q
    exact ⟨fun _ => rfl, fun z => absurd c4 (i_nl z.1.2)⟩
  · intro a0 a1 a2 S c c2 b e c3 c4 c5
    refine ⟨rfl, fun _ => rfl, fun b_q h1 h2 e_q => ?_⟩
    exact ⟨fun _ => rfl, fun z => absurd z.2.1 (i_nl c5)⟩
  · intro a0 a1 a2 S c c2 b e c3 c4 c5 c6 b2 e2
    refine ⟨rfl, fun z => absurd ⟨i_ge c, c2⟩ z, fun b_q h1 h2 e_q => ?_⟩
    rw [e] at e_q; cases e_q
    refine ⟨fun z => absurd ⟨⟨i_ge c3, Int32.not_le.mp c4⟩, i_ge c5, c6⟩ z, fun _ b3 e3 => ?_⟩
    rw [e2] at e3; cases e3
    rfl
  · intro a0 a1 a2 S c c2 b e c3 c4 c5 c6
    refine ⟨rfl, fun _ => rfl, fun b_q h1 h2 e_q => ?_⟩
    exact ⟨fun _ => rfl, fun z => absurd z.2.2 c6⟩
  · intro a0 a1 a2 S c c2
    exact ⟨rfl, fun _ => rfl, fun b h1 h2 => absurd h2 c2⟩
def r196 (a0 a1 a2 : Int32) (S : ex_S) (v : Int32) (_S' : ex_S) : Prop := (¬ (0 ≤ a0 ∧ a0 ≤ S.1 46 0 - 1) → v = -1) ∧ (0 ≤ a0 ∧ a0 ≤ S.1 46 0 - 1 → (¬ ((0 ≤ a1 ∧ a1 ≤ S.1 47 ((100 * a0).toNatClampNeg) - 1) ∧ 0 ≤ a2 ∧ a2 ≤ 3) → v = -1) ∧ ((0 ≤ a1 ∧ a1 ≤ S.1 47 ((100 * a0).toNatClampNeg) - 1) ∧ 0 ≤ a2 ∧ a2 ≤ 3 → v = S.1 47 (((((100 * a0) + 2) + (4 * a1)) + a2).toNatClampNeg)))
theorem ec196 : es196 r196 := by
  refine ev196 ?_ ?_ ?_ ?_
  · intro a0 a1 a2 S c
    exact ⟨fun _ => rfl, fun h => absurd h (vf174_n c)⟩
  · intro a0 a1 a2 S c c1
    exact ⟨fun z => absurd (vf174_y c) z, fun _ => ⟨fun _ => rfl, fun h => absurd h.1 (vf174_n c1)⟩⟩
  · intro a0 a1 a2 S c c1 c2
    exact ⟨fun z => absurd (vf174_y c) z, fun _ => ⟨fun _ => rfl, fun h => absurd h.2 (vf174_n c2)⟩⟩
  · intro a0 a1 a2 S c c1 c2
    exact ⟨fun z => absurd (vf174_y c) z, fun _ => ⟨fun z => absurd ⟨vf174_y c1, vf174_y c2⟩ z, fun _ => rfl⟩⟩
def r197 (a0 a1 a2 : Int32) (S : ex_S) (v : Int32) (_S' : ex_S) : Prop := (¬ (0 ≤ a0 ∧ a0 ≤ S.1 46 0 - 1) → v = -1) ∧ (0 ≤ a0 ∧ a0 ≤ S.1 46 0 - 1 → (¬ ((0 ≤ a1 ∧ a1 ≤ S.1 47 ((100 * a0 + 1).toNatClampNeg) - 1) ∧ 0 ≤ a2 ∧ a2 ≤ 2) → v = -1) ∧ ((0 ≤ a1 ∧ a1 ≤ S.1 47 ((100 * a0 + 1).toNatClampNeg) - 1) ∧ 0 ≤ a2 ∧ a2 ≤ 2 → v = S.1 47 (((((100 * a0) + 42) + (3 * a1)) + a2).toNatClampNeg)))
theorem ec197 : es197 r197 := by
  refine ev197 ?_ ?_ ?_ ?_
  · intro a0 a1 a2 S c
    exact ⟨fun _ => rfl, fun h => absurd h (vf174_n c)⟩
  · intro a0 a1 a2 S c c1
    exact ⟨fun z => absurd (vf174_y c) z, fun _ => ⟨fun _ => rfl, fun h => absurd h.1 (vf174_n c1)⟩⟩
  · intro a0 a1 a2 S c c1 c2
    exact ⟨fun z => absurd (vf174_y c) z, fun _ => ⟨fun _ => rfl, fun h => absurd h.2 (vf174_n c2)⟩⟩
  · intro a0 a1 a2 S c c1 c2
    exact ⟨fun z => absurd (vf174_y c) z, fun _ => ⟨fun z => absurd ⟨vf174_y c1, vf174_y c2⟩ z, fun _ => rfl⟩⟩
def q65 (a0 a1 : Int32) (S : ex_S) (v : Int32) (S_q : ex_S) : Prop := S_q = S ∧ (¬ (0 ≤ a0 ∧ a0 < S.1 23 1) → v = -2) ∧ ∀ b, 0 ≤ a0 → a0 < S.1 23 1 → S.2.2.1 20 a0.toNatClampNeg = some b → (a1 = -1 → v = S.1 b 0) ∧ (¬ a1 = -1 → (¬ (0 ≤ a1 ∧ a1 < S.1 b 0) → v = -2) ∧ (0 ≤ a1 ∧ a1 < S.1 b 0 → ∀ b_q, S.2.2.1 b 1 = some b_q → v = S.1 b_q a1.toNatClampNeg))
theorem ec65 : es65 q65 := by
  refine ev65 ?_ ?_ ?_ ?_ ?_ ?_ ?_
  · intro a0 a1 S c
    exact ⟨rfl, fun _ => rfl, fun b h => absurd h (i_nl c)⟩
  · intro a0 a1 S c c2 b e n c3
    exact ⟨rfl, fun _ => rfl, fun b_q h1 h2 e_q => ⟨fun z => absurd z n, fun _ => ⟨fun _ => rfl, fun z => absurd z.1 (i_nl c3)⟩⟩⟩
  · intro a0 a1 S c c2 b e n c3 c4
    refine ⟨rfl, fun _ => rfl, fun b_q h1 h2 e_q => ?_⟩
    rw [e] at e_q; cases e_q
    exact ⟨fun z => absurd z n, fun _ => ⟨fun _ => rfl, fun z => absurd c4 (i_nl z.2)⟩⟩
  · intro a0 a1 S c c2 b e n c3 c4 b2 e2
    refine ⟨rfl, fun z => absurd ⟨i_ge c, c2⟩ z, fun b_q h1 h2 e_q => ?_⟩
    rw [e] at e_q; cases e_q
    refine ⟨fun z => absurd z n, fun _ => ⟨fun z => absurd ⟨i_ge c3, Int32.not_le.mp c4⟩ z, fun _ b3 e3 => ?_⟩⟩
    rw [e2] at e3; cases e3
    rfl
  · intro a0 a1 S c c2 b e n
    have n := Classical.not_not.mp n
    refine ⟨rfl, fun z => absurd ⟨i_ge c, c2⟩ z, fun b_q h1 h2 e_q => ?_⟩
    rw [e] at e_q; cases e_q
    exact ⟨fun _ => rfl, fun z => absurd n z⟩
  · intro a0 a1 S c c2 e
    refine ⟨rfl, fun _ => rfl, fun b_q h1 h2 e_q => ?_⟩
    rw [e] at e_q; cases e_q
  · intro a0 a1 S c c2
    exact ⟨rfl, fun _ => rfl, fun b h1 h2 => absurd h2 c2⟩
def r198 (a0 a1 : Int32) (S : ex_S) (v : Int32) (_S' : ex_S) : Prop := (¬ (0 ≤ a0 ∧ a0 ≤ S.1 46 1 - 1) → v = -2) ∧ (0 ≤ a0 ∧ a0 ≤ S.1 46 1 - 1 → (a1 = -1 → v = S.1 48 ((13 * a0).toNatClampNeg)) ∧ (¬ a1 = -1 → (¬ (0 ≤ a1 ∧ a1 ≤ S.1 48 ((13 * a0).toNatClampNeg) - 1) → v = -2) ∧ (0 ≤ a1 ∧ a1 ≤ S.1 48 ((13 * a0).toNatClampNeg) - 1 → v = S.1 48 ((((13 * a0) + 1) + a1).toNatClampNeg))))
theorem ec198 : es198 r198 := by
  refine ev198 ?_ ?_ ?_ ?_
  · intro a0 a1 S c n c1
    exact ⟨fun z => absurd (vf174_y c) z, fun _ => ⟨fun z => absurd z n, fun _ => ⟨fun _ => rfl, fun z => absurd z (vf174_n c1)⟩⟩⟩
  · intro a0 a1 S c n c1
    exact ⟨fun z => absurd (vf174_y c) z, fun _ => ⟨fun z => absurd z n, fun _ => ⟨fun z => absurd (vf174_y c1) z, fun _ => rfl⟩⟩⟩
  · intro a0 a1 S c n
    have n := Classical.not_not.mp n
    exact ⟨fun z => absurd (vf174_y c) z, fun _ => ⟨fun _ => rfl, fun z => absurd n z⟩⟩
  · intro a0 a1 S c
    exact ⟨fun _ => rfl, fun h => absurd h (vf174_n (Classical.not_not.mp c))⟩
def q162 (a0 a1 a2 : Int32) (S : ex_S) (v : Int32) (S_q : ex_S) : Prop := S_q = S ∧ (¬ ((0 ≤ a0 ∧ a0 < S.1 23 3) ∧ 0 ≤ a2 ∧ a2 ≤ 2) → v = -2) ∧ ∀ b, (0 ≤ a0 ∧ a0 < S.1 23 3) ∧ 0 ≤ a2 ∧ a2 ≤ 2 → S.2.2.1 22 a0.toNatClampNeg = some b → (a1 = -1 → (¬ a2 = 0 → v = -2) ∧ (a2 = 0 → v = S.1 b 0)) ∧ (¬ a1 = -1 → (¬ (0 ≤ a1 ∧ a1 < S.1 b 0) → v = -2) ∧ (0 ≤ a1 ∧ a1 < S.1 b 0 → ∀ b_q, S.2.2.1 b 1 = some b_q → v = S.1 b_q (((a1 * 4) + a2).toNatClampNeg)))
theorem ec162 : es162 q162 := by
  refine ev162 ?_ ?_ ?_ ?_ ?_ ?_ ?_ ?_ ?_ ?_
  · intro a0 a1 a2 S c
    exact ⟨rfl, fun _ => rfl, fun b h => absurd h.1.1 (i_nl c)⟩
  · intro a0 a1 a2 S c c2 e
    refine ⟨rfl, fun _ => rfl, fun b_q h e_q => ?_⟩
    rw [e] at e_q; cases e_q
  · intro a0 a1 a2 S c c2 b e c3
    exact ⟨rfl, fun _ => rfl, fun b h => absurd h.2.1 (i_nl c3)⟩
  · intro a0 a1 a2 S c c2 b e c3 c4 n c5
    exact ⟨rfl, fun _ => rfl, fun b_q h e_q => ⟨fun z => absurd z n, fun _ => ⟨fun _ => rfl, fun z => absurd z.1 (i_nl c5)⟩⟩⟩
  · intro a0 a1 a2 S c c2 b e c3 c4 n c5 c6 b2 e2
    refine ⟨rfl, fun z => absurd ⟨⟨i_ge c, c2⟩, i_ge c3, c4⟩ z, fun b_q h e_q => ?_⟩
    rw [e] at e_q; cases e_q
    refine ⟨fun z => absurd z n, fun _ => ⟨fun z => absurd ⟨i_ge c5, c6⟩ z, fun _ b3 e3 => ?_⟩⟩
    rw [e2] at e3; cases e3
    rfl
  · intro a0 a1 a2 S c c2 b e c3 c4 n c5 c6
    refine ⟨rfl, fun _ => rfl, fun b_q h e_q => ?_⟩
    rw [e] at e_q; cases e_q
    exact ⟨fun z => absurd z n, fun _ => ⟨fun _ => rfl, fun z => absurd z.2 c6⟩⟩
  · intro a0 a1 a2 S c c2 b e c3 c4 n n2
    have n := Classical.not_not.mp n
    exact ⟨rfl, fun _ => rfl, fun b_q h e_q => ⟨fun _ => ⟨fun _ => rfl, fun z => absurd z n2⟩, fun z => absurd n z⟩⟩
  · intro a0 a1 a2 S c c2 b e c3 c4 n n2
    have n := Classical.not_not.mp n
    have n2 := Classical.not_not.mp n2
    refine ⟨rfl, fun z => absurd ⟨⟨i_ge c, c2⟩, i_ge c3, c4⟩ z, fun b_q h e_q => ?_⟩
    rw [e] at e_q; cases e_q
    exact ⟨fun _ => ⟨fun z => absurd n2 z, fun _ => rfl⟩, fun z => absurd n z⟩
  · intro a0 a1 a2 S c c2 b e c3 c4
    exact ⟨rfl, fun _ => rfl, fun b h => absurd h.2.2 c4⟩
  · intro a0 a1 a2 S c c2
    exact ⟨rfl, fun _ => rfl, fun b h => absurd h.1.2 c2⟩
def r271 (a0 a1 a2 : Int32) (S : ex_S) (v : Int32) (_S' : ex_S) : Prop := (¬ (0 ≤ a0 ∧ a0 ≤ S.1 46 3 - 1) → v = -2) ∧ (0 ≤ a0 ∧ a0 ≤ S.1 46 3 - 1 → (a1 = -1 → (¬ a2 = 0 → v = -2) ∧ (a2 = 0 → v = S.1 50 ((25 * a0).toNatClampNeg))) ∧ (¬ a1 = -1 → (¬ ((0 ≤ a1 ∧ a1 ≤ S.1 50 ((25 * a0).toNatClampNeg) - 1) ∧ 0 ≤ a2 ∧ a2 ≤ 2) → v = -2) ∧ ((0 ≤ a1 ∧ a1 ≤ S.1 50 ((25 * a0).toNatClampNeg) - 1) ∧ 0 ≤ a2 ∧ a2 ≤ 2 → v = S.1 50 (((((25 * a0) + 1) + (3 * a1)) + a2).toNatClampNeg))))
theorem ec271 : es271 r271 := by
  refine ev271 ?_ ?_ ?_ ?_ ?_ ?_
  · intro a0 a1 a2 S c n c1
    exact ⟨fun z => absurd (vf174_y c) z, fun _ => ⟨fun z => absurd z n, fun _ => ⟨fun _ => rfl, fun z => absurd z.1 (vf174_n c1)⟩⟩⟩
  · intro a0 a1 a2 S c n c1 c2
    exact ⟨fun z => absurd (vf174_y c) z, fun _ => ⟨fun z => absurd z n, fun _ => ⟨fun _ => rfl, fun z => absurd z.2 (vf174_n c2)⟩⟩⟩
  · intro a0 a1 a2 S c n c1 c2
    exact ⟨fun z => absurd (vf174_y c) z, fun _ => ⟨fun z => absurd z n, fun _ => ⟨fun z => absurd ⟨vf174_y c1, vf174_y c2⟩ z, fun _ => rfl⟩⟩⟩
  · intro a0 a1 a2 S c n n2
    have n := Classical.not_not.mp n
    exact ⟨fun z => absurd (vf174_y c) z, fun _ => ⟨fun _ => ⟨fun _ => rfl, fun z => absurd z n2⟩, fun z => absurd n z⟩⟩
  · intro a0 a1 a2 S c n n2
    have n := Classical.not_not.mp n
    have n2 := Classical.not_not.mp n2
    exact ⟨fun z => absurd (vf174_y c) z, fun _ => ⟨fun _ => ⟨fun z => absurd n2 z, fun _ => rfl⟩, fun z => absurd n z⟩⟩
  · intro a0 a1 a2 S c
    exact ⟨fun _ => rfl, fun h => absurd h (vf174_n (Classical.not_not.mp c))⟩
end
section
/-! list, rule, reading, row, law answer alike -/
theorem i_nat {a : Int32} (h : 0 ≤ a) : ∃ n, a = Int32.ofNat n ∧ n < 2147483648 ∧ a.toNatClampNeg = n := by
  have h := Int32.le_iff_toInt_le.mp h
  rw [show (0 : Int32).toInt = 0 from rfl] at h
  have l := a.toInt_lt
  refine ⟨a.toInt.toNat, ?_, by omega, rfl⟩
  apply Int32.toInt_inj.mp
  rw [n32_i (by omega)]
  omega
theorem i_le {n m : Nat} (hn : n < 2147483648) (hm : m < 2147483648) (h : Int32.ofNat n ≤ Int32.ofNat m) : n ≤ m := (n32_le hn hm).mp h
def cnq (S : ex_S) : Prop := ∀ m, m < 4 → sf_B 0 (tlen m) (S.1 23 m)
theorem cnt_iff {S : ex_S} (CN : cnq S) (R : R2 S) {m : Nat} (hm : m < 4) (a : Int32) : (0 ≤ a ∧ a ≤ S.1 46 m - 1) ↔ (0 ≤ a ∧ a < S.1 23 m) := by
  have e : S.1 23 m = S.1 46 m := by
    have z := R.1.1.2.2 m hm
    rw [show 4 * 0 + m = m by omega] at z
    exact z
  have b := CN m hm
  have t := tlen_le m
  rw [e] at b ⊢
  obtain ⟨b0, b1⟩ := b
  exact rx_at (s := 0) ⟨b0, by omega⟩
theorem pr_iff {n : Nat} (hn : n ≤ 1000) (a : Int32) : (0 ≤ a ∧ a ≤ Int32.ofNat n - 1) ↔ (0 ≤ a ∧ a < Int32.ofNat n) := by
  have e : (Int32.ofNat n - 1).toInt = n - 1 := by
    rw [Int32.toInt_sub, n32_i (by omega), show (1 : Int32).toInt = 1 from rfl]
    exact Int.bmod_eq_of_le (by omega) (by omega)
  rw [Int32.le_iff_toInt_le (x := a) (y := Int32.ofNat n - 1), e, Int32.lt_iff_toInt_lt (x := a) (y := Int32.ofNat n), n32_i (by omega)]
  constructor
  · intro z; exact ⟨z.1, by omega⟩
  · intro z; exact ⟨z.1, by omega⟩
theorem txt_at {S : ex_S} (CN : cnq S) (R : R2 S) {m : Nat} (hm : m < 4) {a : Int32} (h0 : 0 ≤ a) (h1 : a < S.1 23 m) : ∃ b c, a = Int32.ofNat c ∧ c < tlen m ∧ S.2.2.1 (19 + m) a.toNatClampNeg = some b ∧ 72 ≤ b ∧ eT m S b (tnm m * c) := by
  obtain ⟨c, ea, lc, tc⟩ := i_nat h0
  have b1 := (CN m hm).2
  have l := Int32.lt_iff_toInt_lt.mp h1
  rw [ea, n32_i lc] at l
  have hc : c < tlen m := by omega
  obtain ⟨b, eb, b72, E⟩ := R.2 17 0 (Or.inl ⟨rfl, rfl⟩) m hm c hc (by rw [← ea]; exact h1)
  rw [show tlen m * 0 + c = c by omega] at E
  refine ⟨b, c, ea, hc, ?_, b72, E⟩
  rw [tc, show 19 + m = 17 + 2 + m by omega]; exact eb
theorem ix1 {w c : Nat} (h : w * c < 2147483648) : (Int32.ofNat w * Int32.ofNat c).toNatClampNeg = w * c := by
  rw [n32_mul, n32_tn h]
theorem R_list {a0 a1 v w : Int32} {S S1 S2 : ex_S} (CN : cnq S) (R : R2 S) (h1 : q61 a0 a1 S v S1) (h2 : r195 a0 a1 S1 w S2) : v = w := by
  obtain ⟨e1, n1, y1⟩ := h1
  rw [e1] at h2
  obtain ⟨n2, y2⟩ := h2
  have ci := cnt_iff CN R (m := 0) (by omega) a0
  by_cases y : 0 ≤ a0 ∧ a0 < S.1 23 0
  · obtain ⟨b, c, ea, lc, eb, b72, E⟩ := txt_at CN R (m := 0) (by omega) y.1 y.2
    have lc : c < 2 := lc
    obtain ⟨rc, tc, l1, l2, c1, c2, c3, c4, rf, ru, rd, nr, wf⟩ := E.1 rfl
    obtain ⟨x0, x1, x2, x3⟩ := y1 b y.1 y.2 eb
    obtain ⟨z0, z1, z2⟩ := y2 (ci.mpr y)
    by_cases a10 : a1 = 0
    · rw [x0 a10, z0 (by rw [a10]; decide), a10, ea, c1, show (100 * Int32.ofNat c + 0).toNatClampNeg = 100 * c by
        rw [Int32.add_zero]; exact ix1 (w := 100) (by omega)]
      exact c2.symm
    by_cases a11 : a1 = 1
    · rw [x1 a11, z0 (by rw [a11]; decide), a11, ea, c3, show (100 * Int32.ofNat c + 1).toNatClampNeg = 100 * c + 1 by
        rw [show (100 : Int32) = Int32.ofNat 100 from rfl, n32_mul, n32_s, n32_tn (by omega)]]
      exact c4.symm
    have no : ¬ (0 ≤ a1 ∧ a1 ≤ 1) := fun z => by
      obtain ⟨k, ek, lk, _⟩ := i_nat z.1
      have z2 := z.2
      rw [ek, show (1 : Int32) = Int32.ofNat 1 from rfl, n32_le lk (by omega)] at z2
      rcases (show k = 0 ∨ k = 1 by omega) with w | w
      · exact a10 (by rw [ek, w]; rfl)
      · exact a11 (by rw [ek, w]; rfl)
    by_cases q : 10 ≤ a1 ∧ a1 < 20
    · obtain ⟨k, ek, lk, _⟩ := i_nat (Int32.le_trans (show (0 : Int32) ≤ 10 by decide) q.1)
      have q1 := q.1
      have q2 := q.2
      rw [ek, show (10 : Int32) = Int32.ofNat 10 from rfl, n32_le (by omega) lk] at q1
      rw [ek, show (20 : Int32) = Int32.ofNat 20 from rfl, n32_lt lk (by omega)] at q2
      have q3 : a1 ≤ 19 := by
        rw [ek, show (19 : Int32) = Int32.ofNat 19 from rfl, n32_le lk (by omega)]; omega
      rw [x2 q (b + 5) rf.2.2.2.2, z1 ⟨q.1, q3⟩, ek, ea, show (Int32.ofNat k - 10).toNatClampNeg = k - 10 by
        rw [show (10 : Int32) = Int32.ofNat 10 from rfl, n32_sub q1, n32_tn (by omega)], show (100 * Int32.ofNat c + (90 + Int32.ofNat k - 10)).toNatClampNeg = 100 * c + (90 + (k - 10)) by
        rw [show (100 : Int32) = Int32.ofNat 100 from rfl, show (90 : Int32) = Int32.ofNat 90 from rfl, show (10 : Int32) = Int32.ofNat 10 from rfl, n32_mul, n32_add, n32_sub (by omega), n32_add, n32_tn (by omega)]
        omega]
      exact nr (k - 10) (by omega)
    · rw [x3 a10 a11 q, z2 no (fun z => q ⟨z.1, Int32.lt_of_le_of_lt z.2 (by decide)⟩)]
  · rw [n1 y, n2 (fun z => y (ci.mp z))]
theorem R_rule {a0 a1 a2 v w : Int32} {S S1 S2 : ex_S} (CN : cnq S) (R : R2 S) (h1 : q63 0 1 3 a0 a1 a2 S v S1) (h2 : r196 a0 a1 a2 S1 w S2) : v = w := by
  obtain ⟨e1, n1, y1⟩ := h1
  rw [e1] at h2
  obtain ⟨n2, y2⟩ := h2
  have ci := cnt_iff CN R (m := 0) (by omega) a0
  by_cases y : 0 ≤ a0 ∧ a0 < S.1 23 0
  · obtain ⟨b, c, ea, lc, eb, b72, E⟩ := txt_at CN R (m := 0) (by omega) y.1 y.2
    have lc : c < 2 := lc
    obtain ⟨rc, tc, l1, l2, c1, c2, c3, c4, rf, ru, rd, nr, wf⟩ := E.1 rfl
    obtain ⟨na, ya⟩ := y1 b y.1 y.2 eb
    obtain ⟨nb, yb⟩ := y2 (ci.mpr y)
    have i0 : (100 * a0).toNatClampNeg = 100 * c := by rw [ea]; exact ix1 (w := 100) (by omega)
    have c2 : S.1 47 (100 * c) = Int32.ofNat rc := c2
    rw [i0, c2] at nb yb
    rw [c1] at na ya
    have pi := pr_iff (n := rc) (by omega) a1
    by_cases z : (0 ≤ a1 ∧ a1 < Int32.ofNat rc) ∧ 0 ≤ a2 ∧ a2 ≤ 3
    · obtain ⟨k, ek, lk, _⟩ := i_nat z.1.1
      obtain ⟨j, ej, lj, _⟩ := i_nat z.2.1
      have hk : k < rc := by
        have u := z.1.2
        rw [ek, n32_lt lk (by omega)] at u; exact u
      have hj : j ≤ 3 := by
        have u := z.2.2
        rw [ej, show (3 : Int32) = Int32.ofNat 3 from rfl, n32_le lj (by omega)] at u; exact u
      rw [ya z (b + 3) rf.2.2.1, yb ⟨pi.mpr z.1, z.2⟩, ek, ej, ea, n32_m4, n32_add, n32_tn (by omega), show (100 * Int32.ofNat c + 2 + 4 * Int32.ofNat k + Int32.ofNat j).toNatClampNeg = 100 * c + (2 + 4 * k + j) by
        rw [show (100 : Int32) = Int32.ofNat 100 from rfl, show (2 : Int32) = Int32.ofNat 2 from rfl, show (4 : Int32) = Int32.ofNat 4 from rfl, n32_mul, n32_mul, n32_add, n32_add, n32_add, n32_tn (by omega)]
        omega]
      exact ru k j hk (by omega)
    · rw [na z, nb (fun u => z ⟨pi.mp u.1, u.2⟩)]
  · rw [n1 y, n2 (fun z => y (ci.mp z))]
theorem R_reading {a0 a1 a2 v w : Int32} {S S1 S2 : ex_S} (CN : cnq S) (R : R2 S) (h1 : q63 2 3 2 a0 a1 a2 S v S1) (h2 : r197 a0 a1 a2 S1 w S2) : v = w := by
  obtain ⟨e1, n1, y1⟩ := h1
  rw [e1] at h2
  obtain ⟨n2, y2⟩ := h2
  have ci := cnt_iff CN R (m := 0) (by omega) a0
  by_cases y : 0 ≤ a0 ∧ a0 < S.1 23 0
  · obtain ⟨b, c, ea, lc, eb, b72, E⟩ := txt_at CN R (m := 0) (by omega) y.1 y.2
    have lc : c < 2 := lc
    obtain ⟨rc, tc, l1, l2, c1, c2, c3, c4, rf, ru, rd, nr, wf⟩ := E.1 rfl
    obtain ⟨na, ya⟩ := y1 b y.1 y.2 eb
    obtain ⟨nb, yb⟩ := y2 (ci.mpr y)
    have i0 : (100 * a0 + 1).toNatClampNeg = 100 * c + 1 := by rw [ea, show (100 : Int32) = Int32.ofNat 100 from rfl, n32_mul, n32_s, n32_tn (by omega)]
    have c4 : S.1 47 (100 * c + 1) = Int32.ofNat tc := c4
    rw [i0, c4] at nb yb
    rw [c3] at na ya
    have pi := pr_iff (n := tc) (by omega) a1
    by_cases z : (0 ≤ a1 ∧ a1 < Int32.ofNat tc) ∧ 0 ≤ a2 ∧ a2 ≤ 2
    · obtain ⟨k, ek, lk, _⟩ := i_nat z.1.1
      obtain ⟨j, ej, lj, _⟩ := i_nat z.2.1
      have hk : k < tc := by
        have u := z.1.2
        rw [ek, n32_lt lk (by omega)] at u; exact u
      have hj : j ≤ 2 := by
        have u := z.2.2
        rw [ej, show (2 : Int32) = Int32.ofNat 2 from rfl, n32_le lj (by omega)] at u; exact u
      rw [ya z (b + 4) rf.2.2.2.1, yb ⟨pi.mpr z.1, z.2⟩, ek, ej, ea, n32_m4, n32_add, n32_tn (by omega), show (100 * Int32.ofNat c + 42 + 3 * Int32.ofNat k + Int32.ofNat j).toNatClampNeg = 100 * c + (42 + 3 * k + j) by
        rw [show (100 : Int32) = Int32.ofNat 100 from rfl, show (42 : Int32) = Int32.ofNat 42 from rfl, show (3 : Int32) = Int32.ofNat 3 from rfl, n32_mul, n32_mul, n32_add, n32_add, n32_add, n32_tn (by omega)]
        omega]
      exact rd k j hk (by omega)
    · rw [na z, nb (fun u => z ⟨pi.mp u.1, u.2⟩)]
  · rw [n1 y, n2 (fun z => y (ci.mp z))]
theorem R_row {a0 a1 v w : Int32} {S S1 S2 : ex_S} (CN : cnq S) (R : R2 S) (h1 : q65 a0 a1 S v S1) (h2 : r198 a0 a1 S1 w S2) : v = w := by
  obtain ⟨e1, n1, y1⟩ := h1
  rw [e1] at h2
  obtain ⟨n2, y2⟩ := h2
  have ci := cnt_iff CN R (m := 1) (by omega) a0
  by_cases y : 0 ≤ a0 ∧ a0 < S.1 23 1
  · obtain ⟨b, c, ea, lc, eb, b72, E⟩ := txt_at CN R (m := 1) (by omega) y.1 y.2
    have lc : c < 3 := lc
    obtain ⟨n, l1, c1, c2, rf, si⟩ := E.2.1 rfl
    obtain ⟨x0, x1⟩ := y1 b y.1 y.2 eb
    obtain ⟨z0, z1⟩ := y2 (ci.mpr y)
    have i0 : (13 * a0).toNatClampNeg = 13 * c := by rw [ea]; exact ix1 (w := 13) (by omega)
    have c2 : S.1 48 (13 * c) = Int32.ofNat n := c2
    rw [i0, c2] at z0 z1
    rw [c1] at x0 x1
    by_cases q : a1 = -1
    · rw [x0 q, z0 q]
    · obtain ⟨x1, x2⟩ := x1 q
      obtain ⟨z1, z2⟩ := z1 q
      have pi := pr_iff (n := n) (by omega) a1
      by_cases z : 0 ≤ a1 ∧ a1 < Int32.ofNat n
      · obtain ⟨k, ek, lk, tk⟩ := i_nat z.1
        have hk : k < n := by
          have u := z.2
          rw [ek, n32_lt lk (by omega)] at u; exact u
        rw [x2 z (b + 1) rf, z2 (pi.mpr z), ek, ea, n32_tn lk, show (13 * Int32.ofNat c + 1 + Int32.ofNat k).toNatClampNeg = 13 * c + (1 + k) by
          rw [show (13 : Int32) = Int32.ofNat 13 from rfl, n32_mul, n32_s, n32_add, n32_tn (by omega)]
          omega]
        exact si k hk
      · rw [x1 z, z1 (fun u => z (pi.mp u))]
  · rw [n1 y, n2 (fun z => y (ci.mp z))]
theorem R_laws {a0 a1 a2 v w : Int32} {S S1 S2 : ex_S} (CN : cnq S) (R : R2 S) (h1 : q162 a0 a1 a2 S v S1) (h2 : r271 a0 a1 a2 S1 w S2) : v = w := by
  obtain ⟨e1, n1, y1⟩ := h1
  rw [e1] at h2
  obtain ⟨n2, y2⟩ := h2
  have ci := cnt_iff CN R (m := 3) (by omega) a0
  by_cases y : 0 ≤ a0 ∧ a0 < S.1 23 3
  · obtain ⟨b, c, ea, lc, eb, b72, E⟩ := txt_at CN R (m := 3) (by omega) y.1 y.2
    have lc : c < 2 := lc
    obtain ⟨n, l1, c1, c2, rf, la⟩ := E.2.2.2 rfl
    obtain ⟨z0, z1⟩ := y2 (ci.mpr y)
    have i0 : (25 * a0).toNatClampNeg = 25 * c := by rw [ea]; exact ix1 (w := 25) (by omega)
    have c2 : S.1 50 (25 * c) = Int32.ofNat n := c2
    rw [i0, c2] at z0 z1
    by_cases g : 0 ≤ a2 ∧ a2 ≤ 2
    · obtain ⟨x0, x1⟩ := y1 b ⟨y, g⟩ eb
      rw [c1] at x0 x1
      by_cases q : a1 = -1
      · by_cases q2 : a2 = 0
        · rw [(x0 q).2 q2, (z0 q).2 q2]
        · rw [(x0 q).1 q2, (z0 q).1 q2]
      · obtain ⟨x1, x2⟩ := x1 q
        obtain ⟨z1, z2⟩ := z1 q
        have pi := pr_iff (n := n) (by omega) a1
        by_cases z : 0 ≤ a1 ∧ a1 < Int32.ofNat n
        · obtain ⟨k, ek, lk, _⟩ := i_nat z.1
          obtain ⟨j, ej, lj, _⟩ := i_nat g.1
          have hk : k < n := by
            have u := z.2
            rw [ek, n32_lt lk (by omega)] at u; exact u
          have hj : j ≤ 2 := by
            have u := g.2
            rw [ej, show (2 : Int32) = Int32.ofNat 2 from rfl, n32_le lj (by omega)] at u; exact u
          rw [x2 z (b + 1) rf, z2 ⟨pi.mpr z, g⟩, ek, ej, ea, n32_m4, n32_add, n32_tn (by omega), show (25 * Int32.ofNat c + 1 + 3 * Int32.ofNat k + Int32.ofNat j).toNatClampNeg = 25 * c + (1 + 3 * k + j) by
            rw [show (25 : Int32) = Int32.ofNat 25 from rfl, show (3 : Int32) = Int32.ofNat 3 from rfl, n32_mul, n32_mul, n32_s, n32_add, n32_add, n32_tn (by omega)]
            omega]
          exact la k j hk (by omega)
        · rw [x1 z, z1 (fun u => z (pi.mp u.1))]
    · have nz : ¬ a2 = 0 := fun z => g (by rw [z]; decide)
      rw [n1 (fun z => g z.2)]
      by_cases q : a1 = -1
      · rw [(z0 q).1 nz]
      · rw [(z1 q).1 (fun z => g z.2)]
  · rw [n1 (fun z => y z.1), n2 (fun z => y (ci.mp z))]
section
variable {ck : cl_K} {E : Nat → pm_E} {m : Nat → Int32} {o : Nat → Option Nat} {h : pm_H}
theorem cnq_of (T : cl_T ck E m o h) : cnq (ex_V h) := by
  obtain ⟨f, e, b⟩ := T.C 23 (by decide) (by decide)
  intro k hk
  have ef : (ex_V h).1 23 k = f k := by
    show ex_eX (h.2.2 23) k = f k
    rw [e]; rfl
  rw [ef]
  have bk := b k
  match k, hk, bk with
  | 0, _, bk => exact bk
  | 1, _, bk => exact bk
  | 2, _, bk => exact bk
  | 3, _, bk => exact bk
  | k + 4, hk, _ => exact absurd hk (by omega)
end
end
