/-! IMAGE and AGAIN of the class -/
theorem ex_sz_at (S : ex_S) (a k b j : Nat) (v : Option Nat) : (ex_sz S a k v).2.2.1 b j = if b = a ∧ j = k then v else S.2.2.1 b j := rfl
def tlen (m : Nat) : Nat := if m = 1 then 3 else if m < 4 then 2 else 0
/-- an object of what is told, with its arrays behind it -/
def tO (S : ex_S) (t : Nat) : Prop := S.2.2.1 t 0 = some (t + 1) ∧ S.2.2.1 t 8 = some (t + 6) ∧ ∀ m, m < 4 → S.2.2.1 t (4 + m) = some (t + 2 + m) ∧ S.2.2.2.1 (t + 2 + m) = tlen m
def tD (t a : Nat) : Prop := t + 7 ≤ a ∨ a + 7 ≤ t
/-- the texts of a, in t: m sorts of them, and i of the next -/
def tzz (S : ex_S) (t a m i c j : Nat) : Option Nat := if (t + 2 ≤ c ∧ c < t + 2 + m ∧ j < S.2.2.2.1 c) ∨ (c = t + 2 + m ∧ j < i) then S.2.2.1 (a + (c - t)) j else S.2.2.1 c j
def tI (m t a : Nat) (S : ex_S) (x : Int32) (T : ex_S) : Prop := tO S t → tO S a → tD t a → T.1 = S.1 ∧ T.2.1 = S.2.1 ∧ T.2.2.2 = S.2.2.2 ∧ ∃ i, i ≤ tlen m ∧ x = Int32.ofNat i ∧ ∀ c j, T.2.2.1 c j = tzz S t a m i c j
theorem tzz_out {S : ex_S} {t a m i c j : Nat} (hm : m ≤ 4) (h : c < t + 2 ∨ t + 6 ≤ c) (hi : m < 4 ∨ i = 0) : tzz S t a m i c j = S.2.2.1 c j := by
  unfold tzz
  rw [if_neg (fun z => by rcases z with z | z <;> omega)]
theorem tI_0 (t a : Nat) (S : ex_S) : tI 0 t a S 0 S := fun _ _ _ => ⟨rfl, rfl, rfl, 0, Nat.zero_le _, rfl, fun c j => by
  unfold tzz
  rw [if_neg (fun z => by rcases z with z | z <;> omega)]⟩
theorem tlen_le (m : Nat) : tlen m ≤ 3 := by
  unfold tlen
  split
  · omega
  · split <;> omega
theorem tI_s {m t a b1 b4 : Nat} {S T : ex_S} {x : Int32} (hm : m < 4) (h : tI m t a S x T) (e1 : T.2.2.1 t (4 + m) = some b1) (c : ¬ (Int32.ofNat (T.2.2.2.1 b1) ≤ x)) (e4 : T.2.2.1 a (4 + m) = some b4) : tI m t a S (x + 1) (ex_sz T b1 x.toNatClampNeg (T.2.2.1 b4 x.toNatClampNeg)) := by
  intro ot oa dd
  obtain ⟨h1, h2, h3, i, i1, i2, i3⟩ := h ot oa dd
  have dd' := dd
  unfold tD at dd'
  have l3 := tlen_le m
  rw [i3, tzz_out (by omega) (Or.inl (by omega)) (Or.inl hm), (ot.2.2 m hm).1] at e1
  cases e1
  rw [i3, tzz_out (by omega) (by omega) (Or.inl hm), (oa.2.2 m hm).1] at e4
  cases e4
  have e5 : T.2.2.2.1 (t + 2 + m) = tlen m := by rw [h3]; exact (ot.2.2 m hm).2
  rw [e5, i2, n32_le (by omega) (by omega)] at c
  refine ⟨h1, h2, h3, i + 1, by omega, by rw [i2]; exact n32_s i, fun c' j => ?_⟩
  rw [ex_sz_at, i2, n32_tn (by omega), i3, i3, tzz_out (c := a + 2 + m) (by omega) (by omega) (Or.inl hm)]
  unfold tzz
  by_cases q : c' = t + 2 + m ∧ j = i
  · obtain ⟨q1, q2⟩ := q
    subst q1; subst q2
    rw [if_pos ⟨rfl, rfl⟩, if_pos (Or.inr ⟨rfl, by omega⟩), show a + (t + 2 + m - t) = a + 2 + m by omega]
  · rw [if_neg q]
    by_cases w : (t + 2 ≤ c' ∧ c' < t + 2 + m ∧ j < S.2.2.2.1 c') ∨ (c' = t + 2 + m ∧ j < i)
    · rw [if_pos w, if_pos (w.imp id (fun z => ⟨z.1, by omega⟩))]
    · rw [if_neg w, if_neg (fun z => w (z.imp id (fun y => ⟨y.1, by
        have : ¬ j = i := fun e => q ⟨y.1, e⟩
        omega⟩)))]
theorem tI_e {m t a b1 : Nat} {S T : ex_S} {x : Int32} (hm : m < 4) (h : tI m t a S x T) (e1 : T.2.2.1 t (4 + m) = some b1) (c : Int32.ofNat (T.2.2.2.1 b1) ≤ x) : tI (m + 1) t a S 0 T := by
  intro ot oa dd
  obtain ⟨h1, h2, h3, i, i1, i2, i3⟩ := h ot oa dd
  have l3 := tlen_le m
  rw [i3, tzz_out (by omega) (Or.inl (by omega)) (Or.inl hm), (ot.2.2 m hm).1] at e1
  cases e1
  have e5 : T.2.2.2.1 (t + 2 + m) = tlen m := by rw [h3]; exact (ot.2.2 m hm).2
  rw [e5, i2, n32_le (by omega) (by omega)] at c
  refine ⟨h1, h2, h3, 0, Nat.zero_le _, rfl, fun c' j => ?_⟩
  rw [i3]
  unfold tzz
  have e6 := (ot.2.2 m hm).2
  by_cases w : (t + 2 ≤ c' ∧ c' < t + 2 + m ∧ j < S.2.2.2.1 c') ∨ (c' = t + 2 + m ∧ j < i)
  · rw [if_pos w, if_pos]
    rcases w with w | w
    · exact Or.inl ⟨w.1, by omega, w.2.2⟩
    · refine Or.inl ⟨by omega, by omega, ?_⟩
      rw [w.1, e6]; omega
  · rw [if_neg w, if_neg]
    intro z
    rcases z with z | z
    · refine w ?_
      by_cases y : c' = t + 2 + m
      · refine Or.inr ⟨y, ?_⟩
        have z3 := z.2.2
        rw [y, e6] at z3; omega
      · exact Or.inl ⟨z.1, by omega, z.2.2⟩
    · omega
theorem ec59 : es59 (fun t a S T => tI 4 t a S 0 T) := by
  refine ev59 (I2 := tI 0) (I31 := tI 1) (I60 := tI 2) (I89 := tI 3) ?_ ?_ ?_ ?_ ?_ ?_ ?_ ?_ ?_
  · intro t a S; exact tI_0 t a S
  · intro t a S x T h b1 e1 c; exact tI_e (m := 0) (by decide) h e1 c
  · intro t a S x T h b1 e1 c b4 e4; exact tI_s (m := 0) (by decide) h e1 c e4
  · intro t a S x T h b1 e1 c; exact tI_e (m := 1) (by decide) h e1 c
  · intro t a S x T h b1 e1 c b4 e4; exact tI_s (m := 1) (by decide) h e1 c e4
  · intro t a S x T h b1 e1 c; exact tI_e (m := 2) (by decide) h e1 c
  · intro t a S x T h b1 e1 c b4 e4; exact tI_s (m := 2) (by decide) h e1 c e4
  · intro t a S x T h b1 e1 c; exact tI_e (m := 3) (by decide) h e1 c
  · intro t a S x T h b1 e1 c b4 e4; exact tI_s (m := 3) (by decide) h e1 c e4
/-- t becomes what a is -/
def tC (t a : Nat) (S S' : ex_S) : Prop := tO S t → tO S a → tD t a → (∀ c j, S'.1 c j = if c = t + 1 ∧ j < 600 then S.1 (a + 1) j else if c = t ∧ 1 ≤ j ∧ j ≤ 3 then S.1 a j else if c = t + 6 ∧ j < 4 then S.1 (a + 6) j else S.1 c j) ∧ S'.2.1 = S.2.1 ∧ S'.2.2.2 = S.2.2.2 ∧ ∀ c j, S'.2.2.1 c j = tzz S t a 4 0 c j
theorem ec58 : es58 tC := by
  refine ev58 ec59 ?_
  intro t a S b1 e1 b3 e3 b5 e5 b7 e7 S' h ot oa dd
  have f5 : S.2.2.1 t 8 = some b5 := e5
  have f7 : S.2.2.1 a 8 = some b7 := e7
  clear e5 e7
  rw [ot.1] at e1; cases e1
  rw [oa.1] at e3; cases e3
  rw [ot.2.1] at f5; cases f5
  rw [oa.2.1] at f7; cases f7
  obtain ⟨h1, h2, h3, i, i1, i2, i3⟩ := h ot oa dd
  have i0 : i = 0 := Nat.le_zero.mp i1
  subst i0
  refine ⟨fun c j => ?_, h2, h3, i3⟩
  unfold tD at dd
  rw [h1, ex_cp_at]
  by_cases q : c = t + 6 ∧ j < 4
  · rw [if_pos ⟨q.1, by omega, by omega⟩, if_neg (by omega), if_neg (by omega), if_pos q]
    rw [ex_sx_ne (by omega), ex_sx_ne (by omega), ex_sx_ne (by omega), ex_cp_at, if_neg (by omega), show 0 + (j - 0) = j by omega]
  · rw [if_neg (fun z => q ⟨z.1, by omega⟩)]
    by_cases q2 : c = t ∧ 1 ≤ j ∧ j ≤ 3
    · rw [if_neg (fun z => by omega), if_pos q2]
      obtain ⟨q2, q3, q4⟩ := q2
      subst q2
      have : j = 1 ∨ j = 2 ∨ j = 3 := by omega
      rcases this with rfl | rfl | rfl
      · rw [ex_sx_ne (by omega), ex_sx_ne (by omega), ex_sx_eq, ex_cp_at, if_neg (by omega)]
      · rw [ex_sx_ne (by omega), ex_sx_eq, ex_sx_ne (by omega), ex_cp_at, if_neg (by omega)]
      · rw [ex_sx_eq, ex_sx_ne (by omega), ex_sx_ne (by omega), ex_cp_at, if_neg (by omega)]
    · rw [ex_sx_ne (by omega), ex_sx_ne (by omega), ex_sx_ne (by omega), ex_cp_at]
      by_cases q3 : c = t + 1 ∧ j < 600
      · rw [if_pos ⟨q3.1, by omega, by omega⟩, if_pos q3, show 0 + (j - 0) = j by omega]
      · rw [if_neg (fun z => q3 ⟨z.1, by omega⟩), if_neg q3, if_neg q2, if_neg q]
/-- a new object of what is told -/
def tN (t : Nat) (S S' : ex_S) : Prop := t + 1 = S.2.2.2.2 → tO S' t ∧ S'.2.2.2.2 = t + 7 ∧ ∀ c j, c < t → S'.1 c j = S.1 c j ∧ S'.2.1 c j = S.2.1 c j ∧ S'.2.2.1 c j = S.2.2.1 c j ∧ S'.2.2.2.1 c = S.2.2.2.1 c
theorem ec2 : es2 tN := by
  refine ev2 ?_
  intro t S _ hS
  refine ⟨⟨?_, ?_, fun m hm => ?_⟩, ?_, fun c j hc => ?_⟩
  · simp [ex_sz, ex_new, ex_sx, ← hS]; try omega
  · simp [ex_sz, ex_new, ex_sx, ← hS]; try omega
  · have : m = 0 ∨ m = 1 ∨ m = 2 ∨ m = 3 := by omega
    rcases this with rfl | rfl | rfl | rfl <;> (simp [ex_sz, ex_new, ex_sx, ← hS, tlen]; try omega)
  · simp [ex_sz, ex_new, ex_sx, ← hS]; try omega
  · have n0 : ¬ c = t := by omega
    have n1 : ¬ c = t + 1 := by omega
    have n2 : ¬ c = t + 1 + 1 := by omega
    have n3 : ¬ c = t + 1 + 1 + 1 := by omega
    have n4 : ¬ c = t + 1 + 1 + 1 + 1 := by omega
    have n5 : ¬ c = t + 1 + 1 + 1 + 1 + 1 := by omega
    have n6 : ¬ c = t + 1 + 1 + 1 + 1 + 1 + 1 := by omega
    simp [ex_sz, ex_new, ex_sx, ← hS, n0, n1, n2, n3, n4, n5, n6]
def ciC (a : Int32) (S : ex_S) (v : Int32) (S' : ex_S) : Prop := (¬ (0 ≤ a ∧ a ≤ 2) → v = 0 ∧ S' = S) ∧ (0 ≤ a ∧ a ≤ 2 → v = 1 ∧ ((∃ b, S.2.2.1 24 a.toNatClampNeg = some b ∧ tC b 17 S S') ∨ (S.2.2.1 24 a.toNatClampNeg = none ∧ ∃ S1, tN S.2.2.2.2 (ex_new S 0) S1 ∧ tC S.2.2.2.2 17 (ex_sz S1 24 a.toNatClampNeg (some S.2.2.2.2)) S')))
theorem lt3_le2 {a : Int32} : a < 3 ↔ a ≤ 2 := by
  rw [Int32.lt_iff_toInt_lt, Int32.le_iff_toInt_le, show (3 : Int32).toInt = 3 from rfl, show (2 : Int32).toInt = 2 from rfl]
  omega
theorem ec57 : es57 ciC := by
  refine ev57 ec2 ec58 ?_ ?_ ?_ ?_
  · intro a S c
    exact ⟨fun _ => ⟨rfl, rfl⟩, fun z => absurd z.1 (Int32.not_le.mpr c)⟩
  · intro a S c c2 b e S' h
    exact ⟨fun z => absurd ⟨Int32.not_lt.mp c, lt3_le2.mp c2⟩ z, fun _ => ⟨rfl, Or.inl ⟨b, e, h⟩⟩⟩
  · intro a S c c2 e _ S1 h1 b eb S' h
    cases eb
    exact ⟨fun z => absurd ⟨Int32.not_lt.mp c, lt3_le2.mp c2⟩ z, fun _ => ⟨rfl, Or.inr ⟨e, S1, h1, h⟩⟩⟩
  · intro a S c c2
    exact ⟨fun _ => ⟨rfl, rfl⟩, fun z => absurd (lt3_le2.mpr z.2) c2⟩
def cgC (a : Int32) (S : ex_S) (v : Int32) (S' : ex_S) : Prop := (¬ ((0 ≤ a ∧ a ≤ 2) ∧ ¬ S.2.2.1 24 a.toNatClampNeg = none) → v = 0 ∧ S' = S) ∧ ((0 ≤ a ∧ a ≤ 2) ∧ ¬ S.2.2.1 24 a.toNatClampNeg = none → v = 1 ∧ ∃ b, S.2.2.1 24 a.toNatClampNeg = some b ∧ tC 17 b S S')
theorem ec60 : es60 cgC := by
  refine ev60 ec58 ?_ ?_ ?_ ?_
  · intro a S c
    exact ⟨fun _ => ⟨rfl, rfl⟩, fun z => absurd z.1.1 (Int32.not_le.mpr c)⟩
  · intro a S c c2
    exact ⟨fun _ => ⟨rfl, rfl⟩, fun z => absurd (lt3_le2.mpr z.1.2) (Int32.not_lt.mpr c2)⟩
  · intro a S c c2 b e S' h
    exact ⟨fun z => absurd ⟨⟨Int32.not_lt.mp c, lt3_le2.mp (Int32.not_le.mp c2)⟩, by rw [e]; exact fun y => by cases y⟩ z, fun _ => ⟨rfl, b, e, h⟩⟩
  · intro a S c c2 e
    exact ⟨fun _ => ⟨rfl, rfl⟩, fun z => absurd e z.2⟩
