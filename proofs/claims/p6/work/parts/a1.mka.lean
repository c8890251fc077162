/-! WHAT A TEXT IS MADE OF: the makers of LIST, ROW, MEAL and HOUSE, with all that they keep -/
/-- cells below n are as they were -/
def lowEq (n : Nat) (S S' : ex_S) : Prop := ∀ a, a < n → (∀ k, S'.1 a k = S.1 a k) ∧ (∀ k, S'.2.1 a k = S.2.1 a k) ∧ (∀ k, S'.2.2.1 a k = S.2.2.1 a k) ∧ S'.2.2.2.1 a = S.2.2.2.1 a
theorem lowEq.refl (n : Nat) (S : ex_S) : lowEq n S S := fun _ _ => ⟨fun _ => rfl, fun _ => rfl, fun _ => rfl, rfl⟩
theorem lowEq.trans {n : Nat} {S T U : ex_S} (h : lowEq n S T) (g : lowEq n T U) : lowEq n S U := fun a ha => ⟨fun k => ((g a ha).1 k).trans ((h a ha).1 k), fun k => ((g a ha).2.1 k).trans ((h a ha).2.1 k), fun k => ((g a ha).2.2.1 k).trans ((h a ha).2.2.1 k), (g a ha).2.2.2.trans (h a ha).2.2.2⟩
theorem lowEq.mono {n n' : Nat} {S T : ex_S} (h : lowEq n S T) (hn : n' ≤ n) : lowEq n' S T := fun a ha => h a (by omega)
theorem lowEq.sx {n b k : Nat} {v : Int32} {S T : ex_S} (h : lowEq n S T) (hb : n ≤ b) : lowEq n S (ex_sx T b k v) := fun a ha => ⟨fun j => (ex_sx_ne (fun z => by omega)).trans ((h a ha).1 j), (h a ha).2.1, (h a ha).2.2.1, (h a ha).2.2.2⟩
theorem lowEq.sy {n b k : Nat} {v : Int64} {S T : ex_S} (h : lowEq n S T) (hb : n ≤ b) : lowEq n S (ex_sy T b k v) := fun a ha => ⟨(h a ha).1, fun j => by
  show (if a = b ∧ j = k then v else T.2.1 a j) = _
  rw [if_neg (fun z => by omega)]; exact (h a ha).2.1 j, (h a ha).2.2.1, (h a ha).2.2.2⟩
theorem lowEq.sz {n b k : Nat} {v : Option Nat} {S T : ex_S} (h : lowEq n S T) (hb : n ≤ b) : lowEq n S (ex_sz T b k v) := fun a ha => ⟨(h a ha).1, (h a ha).2.1, fun j => by
  show (if a = b ∧ j = k then v else T.2.2.1 a j) = _
  rw [if_neg (fun z => by omega)]; exact (h a ha).2.2.1 j, (h a ha).2.2.2⟩
theorem lowEq.new {n m : Nat} {S T : ex_S} (h : lowEq n S T) (hb : n ≤ T.2.2.2.2) : lowEq n S (ex_new T m) := fun a ha => by
  have ne : ¬ a = T.2.2.2.2 := by omega
  refine ⟨fun j => ?_, fun j => ?_, fun j => ?_, ?_⟩
  · show (if a = T.2.2.2.2 then 0 else T.1 a j) = _
    rw [if_neg ne]; exact (h a ha).1 j
  · show (if a = T.2.2.2.2 then 0 else T.2.1 a j) = _
    rw [if_neg ne]; exact (h a ha).2.1 j
  · show (if a = T.2.2.2.2 then none else T.2.2.1 a j) = _
    rw [if_neg ne]; exact (h a ha).2.2.1 j
  · show (if a = T.2.2.2.2 then m else T.2.2.2.1 a) = _
    rw [if_neg ne]; exact (h a ha).2.2.2
theorem lowEq.cl {n m : Nat} {S T : ex_S} (h : lowEq n S T) (hb : n ≤ T.2.2.2.2) : lowEq n S (ex_cl T m) := fun a ha => by
  have ne : ¬ a = T.2.2.2.2 := by omega
  refine ⟨fun j => ?_, fun j => ?_, fun j => ?_, ?_⟩
  · show (if a = T.2.2.2.2 then T.1 m j else T.1 a j) = _
    rw [if_neg ne]; exact (h a ha).1 j
  · show (if a = T.2.2.2.2 then 0 else T.2.1 a j) = _
    rw [if_neg ne]; exact (h a ha).2.1 j
  · show (if a = T.2.2.2.2 then none else T.2.2.1 a j) = _
    rw [if_neg ne]; exact (h a ha).2.2.1 j
  · show (if a = T.2.2.2.2 then T.2.2.2.1 m else T.2.2.2.1 a) = _
    rw [if_neg ne]; exact (h a ha).2.2.2
theorem lowEq.cp {n a sp b dp m : Nat} {S T : ex_S} (h : lowEq n S T) (hb : n ≤ b) : lowEq n S (ex_cp T a sp b dp m) := fun c hc => ⟨fun j => by
  show (if c = b ∧ dp ≤ j ∧ j < dp + m then T.1 a (sp + (j - dp)) else T.1 c j) = _
  rw [if_neg (fun z => by omega)]; exact (h c hc).1 j, (h c hc).2.1, (h c hc).2.2.1, (h c hc).2.2.2⟩
/-- rows of what a step shows -/
theorem sx2 (S : ex_S) (a k : Nat) (v : Int32) : (ex_sx S a k v).2 = S.2 := rfl
theorem sz_at (S : ex_S) (a k b j : Nat) (v : Option Nat) : (ex_sz S a k v).2.2.1 b j = if b = a ∧ j = k then v else S.2.2.1 b j := rfl
theorem sz_eq {S : ex_S} {a k : Nat} {v : Option Nat} : (ex_sz S a k v).2.2.1 a k = v := if_pos ⟨rfl, rfl⟩
theorem sz_ne {S : ex_S} {a k b j : Nat} {v : Option Nat} (h : ¬ (b = a ∧ j = k)) : (ex_sz S a k v).2.2.1 b j = S.2.2.1 b j := if_neg h
theorem sy_eq {S : ex_S} {a k : Nat} {v : Int64} : (ex_sy S a k v).2.1 a k = v := if_pos ⟨rfl, rfl⟩
theorem sy_at (S : ex_S) (a k b j : Nat) (v : Int64) : (ex_sy S a k v).2.1 b j = if b = a ∧ j = k then v else S.2.1 b j := rfl
theorem nw1 {S : ex_S} {n b : Nat} (h : ¬ b = S.2.2.2.2) (j : Nat) : (ex_new S n).1 b j = S.1 b j := if_neg h
theorem nw1e {S : ex_S} {n b : Nat} (h : b = S.2.2.2.2) (j : Nat) : (ex_new S n).1 b j = 0 := if_pos h
theorem nw2e {S : ex_S} {n b : Nat} (h : b = S.2.2.2.2) (j : Nat) : (ex_new S n).2.1 b j = 0 := if_pos h
theorem nw3 {S : ex_S} {n b : Nat} (h : ¬ b = S.2.2.2.2) (j : Nat) : (ex_new S n).2.2.1 b j = S.2.2.1 b j := if_neg h
theorem nw4 {S : ex_S} {n b : Nat} (h : ¬ b = S.2.2.2.2) : (ex_new S n).2.2.2.1 b = S.2.2.2.1 b := if_neg h
theorem nw4e {S : ex_S} {n b : Nat} (h : b = S.2.2.2.2) : (ex_new S n).2.2.2.1 b = n := if_pos h
theorem cl1 {S : ex_S} {n b : Nat} (h : ¬ b = S.2.2.2.2) (j : Nat) : (ex_cl S n).1 b j = S.1 b j := if_neg h
theorem cl1e {S : ex_S} {n b : Nat} (h : b = S.2.2.2.2) (j : Nat) : (ex_cl S n).1 b j = S.1 n j := if_pos h
theorem cl2 {S : ex_S} {n b : Nat} (h : ¬ b = S.2.2.2.2) (j : Nat) : (ex_cl S n).2.1 b j = S.2.1 b j := if_neg h
theorem cl3 {S : ex_S} {n b : Nat} (h : ¬ b = S.2.2.2.2) (j : Nat) : (ex_cl S n).2.2.1 b j = S.2.2.1 b j := if_neg h
theorem cl4 {S : ex_S} {n b : Nat} (h : ¬ b = S.2.2.2.2) : (ex_cl S n).2.2.2.1 b = S.2.2.2.1 b := if_neg h
/-- copyOf -/
def cpy (a0 : Nat) (a1 : Int32) (S : ex_S) (r : Option Nat) (S' : ex_S) : Prop := r = some S.2.2.2.2 ∧ S'.2.2.2.2 = S.2.2.2.2 + 1 ∧ lowEq S.2.2.2.2 S S' ∧ ∀ n, a1 = Int32.ofNat n → n ≤ S.2.2.2.1 a0 → S.2.2.2.1 a0 ≤ 1000 → a0 < S.2.2.2.2 → ∀ j, j < n → S'.1 S.2.2.2.2 j = S.1 a0 j
theorem ec45c : es45 cpy := by
  refine ev45 ?_ ?_
  · intro a n S c
    refine ⟨rfl, rfl, ((lowEq.refl _ S).new (Nat.le_refl _)).cp (Nat.le_refl _), fun m em hm hl ha j hj => ?_⟩
    rw [nw4 (by omega), em, if_pos ((n32_lt (by omega) (by omega)).mpr (by
      have : m ≠ S.2.2.2.1 a := fun z => c (by rw [em, z])
      omega)), n32_tn (by omega)]
    show (if S.2.2.2.2 = S.2.2.2.2 ∧ 0 ≤ j ∧ j < 0 + m then (ex_new S m).1 a (0 + (j - 0)) else _) = _
    rw [if_pos ⟨rfl, by omega, by omega⟩, nw1 (by omega), show 0 + (j - 0) = j by omega]
  · intro a n S c
    refine ⟨rfl, rfl, (lowEq.refl _ S).cl (Nat.le_refl _), fun m em hm hl ha j hj => ?_⟩
    exact cl1e rfl j
/-- the worn signs of a LIST: one hand more -/
def wso (near : Nat → Int32) (x : Int32) : Nat → Int32
  | 0 => x
  | i + 1 => if ((x.toUInt32 >>> ((Int32.ofNat i).toUInt32 &&& Int32.toUInt32 31)).toInt32) &&& 1 = 0 then wso near x i else wso near x i ||| near i
def wtab (near : Nat → Int32) : Nat → Nat → Int32
  | 0, s => 1 <<< (Int32.ofNat s &&& 31)
  | h + 1, s => wso near (wtab near h s) 10
/-- whether one of the first i signs changes by hand h + 1 -/
def wchi (near : Nat → Int32) (f : Nat → Int32) : Nat → Int32
  | 0 => 0
  | i + 1 => if wso near (f i) 10 = f i then wchi near f i else 1
def wrest (near : Nat → Int32) : Nat → Int32
  | 0 => 0
  | h + 1 => if wchi near (wtab near h) 10 = 0 then wrest near h else Int32.ofNat (h + 1)
theorem wchi_01 (near f : Nat → Int32) (i : Nat) : wchi near f i = 0 ∨ wchi near f i = 1 := by
  induction i with
  | zero => exact Or.inl rfl
  | succ i ih =>
    unfold wchi
    split
    · exact ih
    · exact Or.inr rfl
def cwq (t h : Nat) (a0 : Int32) (S : ex_S) : Prop := a0 = Int32.ofNat (h + 1) ∧ h < 9 ∧ S.2.2.1 t 6 = some (t + 2) ∧ S.2.2.1 t 4 = some (t + 5)
/-- i signs are done -/
def cwd (t h i : Nat) (S T : ex_S) : Prop := T.2 = S.2 ∧ (∀ c k, ¬ (c = t + 2 ∧ 10 * (h + 1) ≤ k ∧ k < 10 * (h + 1) + i) → T.1 c k = S.1 c k) ∧ ∀ s, s < i → T.1 (t + 2) (10 * (h + 1) + s) = wso (S.1 (t + 5)) (S.1 (t + 2) (10 * h + s)) 10
def cw (t : Nat) (a0 : Int32) (S : ex_S) (v : Int32) (S' : ex_S) : Prop := ∀ h, cwq t h a0 S → cwd t h 10 S S' ∧ v = wchi (S.1 (t + 5)) (fun s => S.1 (t + 2) (10 * h + s)) 10
def cvI (t : Nat) (a0 : Int32) (S : ex_S) (x2 x3 : Int32) (T : ex_S) : Prop := ∀ h, cwq t h a0 S → ∃ i, i ≤ 10 ∧ x3 = Int32.ofNat i ∧ cwd t h i S T ∧ x2 = wchi (S.1 (t + 5)) (fun s => S.1 (t + 2) (10 * h + s)) i
def cvJ (t : Nat) (a0 : Int32) (S : ex_S) (x2 x3 x4 x5 x6 : Int32) (T : ex_S) : Prop := ∀ h, cwq t h a0 S → ∃ i o, i < 10 ∧ x3 = Int32.ofNat i ∧ cwd t h i S T ∧ x2 = wchi (S.1 (t + 5)) (fun s => S.1 (t + 2) (10 * h + s)) i ∧ x4 = S.1 (t + 2) (10 * h + i) ∧ o ≤ 10 ∧ x6 = Int32.ofNat o ∧ x5 = wso (S.1 (t + 5)) x4 o
theorem cw_ix {h i : Nat} (hh : h < 10) (hi : i ≤ 10) : (Int32.ofNat h * 10 + Int32.ofNat i).toNatClampNeg = 10 * h + i := by
  rw [show (10 : Int32) = Int32.ofNat 10 from rfl, ← Int32.ofNat_mul, n32_add, n32_tn (by omega)]
  omega
theorem n32_p (h : Nat) : Int32.ofNat (h + 1) - 1 = Int32.ofNat h := by
  rw [show (1 : Int32) = Int32.ofNat 1 from rfl, n32_sub (by omega)]; rfl
theorem cwd_z {t h i : Nat} {S T : ex_S} {b k : Nat} (d : cwd t h i S T) (q : S.2.2.1 t k = some b) {b' : Nat} (e : T.2.2.1 t k = some b') : b' = b := by
  rw [d.1, q] at e; cases e; rfl
theorem ec46c : es46 cw := by
  refine ev46 (I4 := cvI) (I32 := cvJ) ?_ ?_ ?_ ?_ ?_ ?_ ?_
  · intro t a0 S h q
    exact ⟨0, by omega, rfl, ⟨rfl, fun _ _ _ => rfl, fun s hs => by omega⟩, rfl⟩
  · intro t a0 S x2 x3 T I c h q
    obtain ⟨i, i1, i2, i3, i4⟩ := I h q
    rw [i2, show (10 : Int32) = Int32.ofNat 10 from rfl, n32_le (by omega) (by omega)] at c
    have : i = 10 := by omega
    subst this
    exact ⟨i3, i4⟩
  · intro t a0 S x2 x3 T I c b e h q
    obtain ⟨i, i1, i2, i3, i4⟩ := I h q
    rw [i2, show (10 : Int32) = Int32.ofNat 10 from rfl, n32_le (by omega) (by omega)] at c
    have eb := cwd_z i3 q.2.2.1 e
    subst eb
    refine ⟨i, 0, by omega, i2, i3, i4, ?_, by omega, rfl, rfl⟩
    rw [q.1, n32_p, i2, cw_ix (by have := q.2.1; omega) (by omega), i3.2.1 _ _ (fun z => by omega)]
  · intro t a0 S x2 x3 x4 x5 x6 T J c b e c2 h q
    obtain ⟨i, o, i1, i2, i3, i4, i5, o1, o2, o3⟩ := J h q
    rw [o2, show (10 : Int32) = Int32.ofNat 10 from rfl, n32_le (by omega) (by omega)] at c
    have : o = 10 := by omega
    subst this
    have eb := cwd_z i3 q.2.2.1 e
    subst eb
    refine ⟨i + 1, by omega, by rw [i2]; exact n32_s i, ⟨i3.1, fun c k hc => ?_, fun s hs => ?_⟩, ?_⟩
    · rw [q.1, i2, cw_ix (by have := q.2.1; omega) (by omega), ex_sx_ne (fun z => hc ⟨z.1, by omega, by omega⟩)]
      exact i3.2.1 c k (fun z => hc ⟨z.1, z.2.1, by omega⟩)
    · rw [q.1, i2, cw_ix (by have := q.2.1; omega) (by omega), ex_sx_at]
      by_cases y : s = i
      · subst y
        rw [if_pos ⟨rfl, rfl⟩, o3, i5]
      · rw [if_neg (fun z => y (by omega))]; exact i3.2.2 s (by omega)
    · show x2 ||| 0 = if wso (S.1 (t + 5)) (S.1 (t + 2) (10 * h + i)) 10 = S.1 (t + 2) (10 * h + i) then _ else 1
      rw [← i5, ← o3, if_pos c2, i4]; exact Int32.or_zero
  · intro t a0 S x2 x3 x4 x5 x6 T J c b e c2 h q
    obtain ⟨i, o, i1, i2, i3, i4, i5, o1, o2, o3⟩ := J h q
    rw [o2, show (10 : Int32) = Int32.ofNat 10 from rfl, n32_le (by omega) (by omega)] at c
    have : o = 10 := by omega
    subst this
    have eb := cwd_z i3 q.2.2.1 e
    subst eb
    refine ⟨i + 1, by omega, by rw [i2]; exact n32_s i, ⟨i3.1, fun c k hc => ?_, fun s hs => ?_⟩, ?_⟩
    · rw [q.1, i2, cw_ix (by have := q.2.1; omega) (by omega), ex_sx_ne (fun z => hc ⟨z.1, by omega, by omega⟩)]
      exact i3.2.1 c k (fun z => hc ⟨z.1, z.2.1, by omega⟩)
    · rw [q.1, i2, cw_ix (by have := q.2.1; omega) (by omega), ex_sx_at]
      by_cases y : s = i
      · subst y
        rw [if_pos ⟨rfl, rfl⟩, o3, i5]
      · rw [if_neg (fun z => y (by omega))]; exact i3.2.2 s (by omega)
    · show x2 ||| 1 = if wso (S.1 (t + 5)) (S.1 (t + 2) (10 * h + i)) 10 = S.1 (t + 2) (10 * h + i) then _ else 1
      rw [← i5, ← o3, if_neg c2, i4]
      rcases wchi_01 (S.1 (t + 5)) (fun s => S.1 (t + 2) (10 * h + s)) i with w | w <;> rw [w] <;> decide
  · intro t a0 S x2 x3 x4 x5 x6 T J c c2 h q
    obtain ⟨i, o, i1, i2, i3, i4, i5, o1, o2, o3⟩ := J h q
    rw [o2, show (10 : Int32) = Int32.ofNat 10 from rfl, n32_le (by omega) (by omega)] at c
    refine ⟨i, o + 1, i1, i2, i3, i4, i5, by omega, by rw [o2]; exact n32_s o, ?_⟩
    rw [o2] at c2
    unfold wso
    rw [if_pos c2]; exact o3
  · intro t a0 S x2 x3 x4 x5 x6 T J c c2 b e h q
    obtain ⟨i, o, i1, i2, i3, i4, i5, o1, o2, o3⟩ := J h q
    rw [o2, show (10 : Int32) = Int32.ofNat 10 from rfl, n32_le (by omega) (by omega)] at c
    have eb := cwd_z i3 q.2.2.2 e
    subst eb
    refine ⟨i, o + 1, i1, i2, i3, i4, i5, by omega, by rw [o2]; exact n32_s o, ?_⟩
    rw [o2] at c2
    unfold wso
    rw [if_neg c2, o3, o2, n32_tn (by omega), i3.2.1 _ _ (fun z => by omega)]
/-- a LIST is made at t -/
def mLq (t : Nat) (S : ex_S) : Prop := t + 1 = S.2.2.2.2 ∧ 72 ≤ t ∧ S.2.2.2.1 26 = 200 ∧ S.2.2.2.1 27 = 64
def mLb (t : Nat) (S T : ex_S) : Prop := lowEq t S T ∧ T.2.2.2.2 = t + 6 ∧ (T.2.2.1 t 5 = some (t + 1) ∧ T.2.2.1 t 6 = some (t + 2) ∧ T.2.2.1 t 1 = some (t + 3) ∧ T.2.2.1 t 3 = some (t + 4) ∧ T.2.2.1 t 4 = some (t + 5)) ∧ T.1 t 0 = S.1 25 4 ∧ T.1 t 2 = S.1 25 6 ∧ (∀ rc, S.1 25 4 = Int32.ofNat rc → rc ≤ 50 → ∀ j, j < 4 * rc → T.1 (t + 3) j = S.1 26 j) ∧ (∀ tc, S.1 25 6 = Int32.ofNat tc → tc ≤ 16 → ∀ j, j < 4 * tc → T.1 (t + 4) j = S.1 27 j) ∧ ∀ j, T.1 (t + 5) j = S.1 28 j
/-- numbers of the two tables, and how long it takes, may change -/
theorem mLb.sx {t b k : Nat} {v : Int32} {S T : ex_S} (h : mLb t S T) (hb : b = t + 2 ∨ (b = t ∧ k = 7)) : mLb t S (ex_sx T b k v) := by
  obtain ⟨a1, a2, a3, a4, a5, a6, a7, a8⟩ := h
  refine ⟨a1.sx (by omega), a2, a3, (ex_sx_ne (by omega)).trans a4, (ex_sx_ne (by omega)).trans a5, fun rc e h j hj => (ex_sx_ne (by omega)).trans (a6 rc e h j hj), fun tc e h j hj => (ex_sx_ne (by omega)).trans (a7 tc e h j hj), fun j => (ex_sx_ne (by omega)).trans (a8 j)⟩
theorem mLb.sy {t k : Nat} {v : Int64} {S T : ex_S} (h : mLb t S T) : mLb t S (ex_sy T (t + 1) k v) := by
  obtain ⟨a1, a2, a3, a4⟩ := h
  exact ⟨a1.sy (by omega), a2, a3, a4⟩
theorem mLb.cw {t h : Nat} {S T U : ex_S} (m : mLb t S T) (d : cwd t h 10 T U) : mLb t S U := by
  obtain ⟨a1, a2, a3, a4, a5, a6, a7, a8⟩ := m
  obtain ⟨d1, d2, _⟩ := d
  refine ⟨fun a ha => ⟨fun k => (d2 a k (by omega)).trans ((a1 a ha).1 k), fun k => by rw [d1]; exact (a1 a ha).2.1 k, fun k => by rw [d1]; exact (a1 a ha).2.2.1 k, by rw [d1]; exact (a1 a ha).2.2.2⟩, by rw [d1]; exact a2, by rw [d1]; exact a3, (d2 _ _ (by omega)).trans a4, (d2 _ _ (by omega)).trans a5, fun rc e h j hj => (d2 _ _ (by omega)).trans (a6 rc e h j hj), fun tc e h j hj => (d2 _ _ (by omega)).trans (a7 tc e h j hj), fun j => (d2 _ _ (by omega)).trans (a8 j)⟩
/-- values of readings, the first i of them -/
def vtab (r : Nat → Int32) : Nat → Nat → Int64
  | 0, _ => 0
  | i + 1, j => if j = ((r (4 * i) * 6) + r (4 * i + 1)).toNatClampNeg then vtab r i j ||| ((1 : Int64) <<< ((r (4 * i + 2)).toInt64 &&& 63)) else vtab r i j
theorem vtab_s (r : Nat → Int32) (i j : Nat) : vtab r (i + 1) j = if j = ((r (4 * i) * 6) + r (4 * i + 1)).toNatClampNeg then vtab r i j ||| ((1 : Int64) <<< ((r (4 * i + 2)).toInt64 &&& 63)) else vtab r i j := rfl
def mLv (t : Nat) (S T : ex_S) : Prop := ∀ tc, S.1 25 6 = Int32.ofNat tc → tc ≤ 16 → ∀ j, T.2.1 (t + 1) j = vtab (S.1 27) tc j
def mL (t : Nat) (S S' : ex_S) : Prop := mLq t S → mLb t S S' ∧ mLv t S S' ∧ (∀ g s, g < 10 → s < 10 → S'.1 (t + 2) (10 * g + s) = wtab (S.1 28) g s) ∧ S'.1 t 7 = wrest (S.1 28) 9
def mLI (t : Nat) (S : ex_S) (x : Int32) (T : ex_S) : Prop := mLq t S → mLb t S T ∧ ∃ i, x = Int32.ofNat i ∧ ∀ tc, S.1 25 6 = Int32.ofNat tc → tc ≤ 16 → i ≤ tc ∧ ∀ j, T.2.1 (t + 1) j = vtab (S.1 27) i j
def mLJ (t : Nat) (S : ex_S) (x : Int32) (T : ex_S) : Prop := mLq t S → mLb t S T ∧ mLv t S T ∧ ∃ i, i ≤ 10 ∧ x = Int32.ofNat i ∧ ∀ j, j < i → T.1 (t + 2) j = 1 <<< (Int32.ofNat j &&& 31)
def mLK (t : Nat) (S : ex_S) (x2 x3 : Int32) (T : ex_S) : Prop := mLq t S → mLb t S T ∧ mLv t S T ∧ ∃ h, h ≤ 9 ∧ x3 = Int32.ofNat (h + 1) ∧ x2 = wrest (S.1 28) h ∧ ∀ g s, g ≤ h → s < 10 → T.1 (t + 2) (10 * g + s) = wtab (S.1 28) g s
theorem wso_cg {f g : Nat → Int32} (h : ∀ j, f j = g j) (x : Int32) (i : Nat) : wso f x i = wso g x i := by
  rw [show f = g from funext h]
theorem wchi_cg {near f g : Nat → Int32} (i : Nat) (h : ∀ j, j < i → f j = g j) : wchi near f i = wchi near g i := by
  induction i with
  | zero => rfl
  | succ i ih =>
    unfold wchi
    rw [h i (by omega), ih (fun j hj => h j (by omega))]
theorem ec44c : es44 mL := by
  refine ev44 (I86 := mLI) (I144 := mLJ) (I169 := mLK) ec45c ec46c ?_ ?_ ?_ ?_ ?_ ?_ ?_ ?_
  · intro t S r2 S3 h3 r6 S7 h7 q
    obtain ⟨q1, q2, q3, q4⟩ := q
    -- up to the first copy
    generalize eU : (ex_sx (ex_sz (ex_new (ex_sz (ex_new S 60) t 5 (some S.2.2.2.2)) 100) t 6 (some ((ex_new S 60).2.2.2.2))) t 0 ((ex_new (ex_sz (ex_new S 60) t 5 (some S.2.2.2.2)) 100).1 25 4)) = U at h3
    have n1 : (ex_new S 60).2.2.2.2 = t + 2 := by
      show S.2.2.2.2 + 1 = t + 2
      omega
    have Lo : lowEq t S U := by
      subst eU
      exact ((((((lowEq.refl t S).new (by omega)).sz (Nat.le_refl _)).new (by show t ≤ S.2.2.2.2 + 1; omega)).sz (Nat.le_refl _)).sx (Nat.le_refl _))
    have Ut : U.2.2.2.2 = t + 3 := by
      subst eU
      show S.2.2.2.2 + 1 + 1 = t + 3
      omega
    have U25 : (ex_new (ex_sz (ex_new S 60) t 5 (some S.2.2.2.2)) 100).1 25 4 = S.1 25 4 := by
      rw [nw1 (by show ¬ 25 = S.2.2.2.2 + 1; omega)]
      exact nw1 (n := 60) (by omega) _
    have U0 : U.1 t 0 = S.1 25 4 := by
      subst eU
      rw [ex_sx_eq]; exact U25
    have U5 : U.2.2.1 t 5 = some (t + 1) := by
      subst eU
      rw [sx2, sz_ne (by omega), nw3 (by show ¬ t = S.2.2.2.2 + 1; omega), sz_eq, q1]
    have U6 : U.2.2.1 t 6 = some (t + 2) := by
      subst eU
      rw [sx2, sz_eq, n1]
    have Uv : ∀ j, U.2.1 (t + 1) j = 0 := fun j => by
      subst eU
      show (if t + 1 = S.2.2.2.2 + 1 then (0 : Int64) else if t + 1 = S.2.2.2.2 then 0 else S.2.1 (t + 1) j) = 0
      rw [if_neg (by omega), if_pos q1]
    clear eU
    rw [U25] at h3
    obtain ⟨c1, c2, c3, c4⟩ := h3
    rw [Ut] at c1 c2 c3 c4
    have e26 : S3.1 25 6 = S.1 25 6 := ((c3 25 (by omega)).1 6).trans ((Lo 25 (by omega)).1 6)
    -- up to the second copy
    generalize eV : (ex_sx (ex_sz S3 t 1 r2) t 2 (S3.1 25 6)) = V at h7
    have LV : lowEq t S V := by
      subst eV
      exact ((Lo.trans (c3.mono (by omega))).sz (Nat.le_refl _)).sx (Nat.le_refl _)
    have Vt : V.2.2.2.2 = t + 4 := by subst eV; exact c2
    have V0 : V.1 t 0 = S.1 25 4 := by
      subst eV
      rw [ex_sx_ne (by omega)]
      exact ((c3 t (by omega)).1 0).trans U0
    have V2 : V.1 t 2 = S.1 25 6 := by
      subst eV
      rw [ex_sx_eq]; exact e26
    have Vz : V.2.2.1 t 5 = some (t + 1) ∧ V.2.2.1 t 6 = some (t + 2) ∧ V.2.2.1 t 1 = some (t + 3) := by
      subst eV
      refine ⟨?_, ?_, ?_⟩
      · rw [sx2, sz_ne (by omega)]; exact ((c3 t (by omega)).2.2.1 5).trans U5
      · rw [sx2, sz_ne (by omega)]; exact ((c3 t (by omega)).2.2.1 6).trans U6
      · rw [sx2, sz_eq, c1]
    have V3 : ∀ rc, S.1 25 4 = Int32.ofNat rc → rc ≤ 50 → ∀ j, j < 4 * rc → V.1 (t + 3) j = S.1 26 j := fun rc e hr j hj => by
      subst eV
      rw [ex_sx_ne (by omega)]
      refine (c4 (4 * rc) (by rw [e]; exact n32_m4 rc) ?_ ?_ (by omega) j hj).trans ((Lo 26 (by omega)).1 j)
      · rw [(Lo 26 (by omega)).2.2.2, q3]; omega
      · rw [(Lo 26 (by omega)).2.2.2, q3]; omega
    have Vv : ∀ j, V.2.1 (t + 1) j = 0 := fun j => by
      subst eV
      exact ((c3 (t + 1) (by omega)).2.1 j).trans (Uv j)
    clear eV
    rw [e26] at h7
    obtain ⟨d1, d2, d3, d4⟩ := h7
    rw [Vt] at d1 d2 d3 d4
    have L7 : lowEq t S S7 := LV.trans (d3.mono (by omega))
    have tp : (ex_sz S7 t 3 r6).2.2.2.2 = t + 5 := d2
    refine ⟨⟨((L7.sz (Nat.le_refl _)).cl (by omega)).sz (Nat.le_refl _), ?_, ⟨?_, ?_, ?_, ?_, ?_⟩, ?_, ?_, fun rc e hr j hj => ?_, fun tc e ht j hj => ?_, fun j => ?_⟩, 0, rfl, fun tc e ht => ⟨Nat.zero_le _, fun j => ?_⟩⟩
    · show S7.2.2.2.2 + 1 = t + 6
      omega
    · rw [sz_ne (by omega), cl3 (by omega), sz_ne (by omega)]; exact ((d3 t (by omega)).2.2.1 5).trans Vz.1
    · rw [sz_ne (by omega), cl3 (by omega), sz_ne (by omega)]; exact ((d3 t (by omega)).2.2.1 6).trans Vz.2.1
    · rw [sz_ne (by omega), cl3 (by omega), sz_ne (by omega)]; exact ((d3 t (by omega)).2.2.1 1).trans Vz.2.2
    · rw [sz_ne (by omega), cl3 (by omega), sz_eq, d1]
    · rw [sz_eq]; exact congrArg some d2
    · show (ex_cl (ex_sz S7 t 3 r6) 28).1 t 0 = _
      rw [cl1 (by omega)]; exact ((d3 t (by omega)).1 0).trans V0
    · show (ex_cl (ex_sz S7 t 3 r6) 28).1 t 2 = _
      rw [cl1 (by omega)]; exact ((d3 t (by omega)).1 2).trans V2
    · show (ex_cl (ex_sz S7 t 3 r6) 28).1 (t + 3) j = _
      rw [cl1 (by omega)]; exact ((d3 (t + 3) (by omega)).1 j).trans (V3 rc e hr j hj)
    · show (ex_cl (ex_sz S7 t 3 r6) 28).1 (t + 4) j = _
      rw [cl1 (by omega)]
      refine (d4 (4 * tc) (by rw [e]; exact n32_m4 tc) ?_ ?_ (by omega) j hj).trans ((LV 27 (by omega)).1 j)
      · rw [(LV 27 (by omega)).2.2.2, q4]; omega
      · rw [(LV 27 (by omega)).2.2.2, q4]; omega
    · show (ex_cl (ex_sz S7 t 3 r6) 28).1 (t + 5) j = _
      rw [cl1e (by omega)]
      exact (L7 28 (by omega)).1 j
    · show (ex_cl (ex_sz S7 t 3 r6) 28).2.1 (t + 1) j = 0
      rw [cl2 (by omega)]; exact ((d3 (t + 1) (by omega)).2.1 j).trans (Vv j)
  · intro t S x T I c q
    obtain ⟨m, i, i1, i2⟩ := I q
    refine ⟨m, fun tc e ht j => ?_, 0, by omega, rfl, fun j hj => by omega⟩
    obtain ⟨i3, i4⟩ := i2 tc e ht
    rw [m.2.2.2.2.1, e, i1, n32_le (by omega) (by omega)] at c
    have : i = tc := by omega
    subst this
    exact i4 j
  · intro t S x T I c b1 e1 b2 e2 q
    obtain ⟨m, i, i1, i2⟩ := I q
    rw [m.2.2.1.2.2.2.1] at e1; cases e1
    rw [m.2.2.1.1] at e2; cases e2
    refine ⟨m.sy, i + 1, by rw [i1]; exact n32_s i, fun tc e ht => ?_⟩
    obtain ⟨i3, i4⟩ := i2 tc e ht
    rw [m.2.2.2.2.1, e, i1, n32_le (by omega) (by omega)] at c
    have x0 : (x * 4).toNatClampNeg = 4 * i := by rw [i1, n32_m4, n32_tn (by omega)]
    have x1 : ((x * 4) + 1).toNatClampNeg = 4 * i + 1 := by rw [i1, n32_m4, n32_s, n32_tn (by omega)]
    have x2 : ((x * 4) + 2).toNatClampNeg = 4 * i + 2 := by rw [i1, n32_m4, show (2 : Int32) = Int32.ofNat 2 from rfl, n32_add, n32_tn (by omega)]
    have r := m.2.2.2.2.2.2.1 tc e ht
    refine ⟨by omega, fun j => ?_⟩
    rw [x0, x1, x2, r (4 * i) (by omega), r (4 * i + 1) (by omega), r (4 * i + 2) (by omega), sy_at, i4, i4, vtab_s]
    by_cases z : j = ((S.1 27 (4 * i) * 6) + S.1 27 (4 * i + 1)).toNatClampNeg
    · rw [if_pos ⟨rfl, z⟩, if_pos z, ← z]
    · rw [if_neg (fun y => z y.2), if_neg z]
  · intro t S x T I c q
    obtain ⟨m, v, i, i1, i2, i3⟩ := I q
    rw [i2, show (10 : Int32) = Int32.ofNat 10 from rfl, n32_le (by omega) (by omega)] at c
    refine ⟨m, v, 0, by omega, rfl, rfl, fun g s hg hs => ?_⟩
    have : g = 0 := by omega
    subst this
    rw [show 10 * 0 + s = s by omega]
    exact i3 s (by omega)
  · intro t S x T I c b e q
    obtain ⟨m, v, i, i1, i2, i3⟩ := I q
    rw [i2, show (10 : Int32) = Int32.ofNat 10 from rfl, n32_le (by omega) (by omega)] at c
    rw [m.2.2.1.2.1] at e; cases e
    refine ⟨m.sx (Or.inl rfl), v, i + 1, by omega, by rw [i2]; exact n32_s i, fun j hj => ?_⟩
    rw [i2, n32_tn (by omega), ex_sx_at]
    by_cases z : j = i
    · rw [if_pos ⟨rfl, z⟩, z]
    · rw [if_neg (fun y => z y.2)]; exact i3 j (by omega)
  · intro t S x2 x3 T I c q
    obtain ⟨m, v, h, h1, h2, h3, h4⟩ := I q
    rw [h2, show (9 : Int32) = Int32.ofNat 9 from rfl, n32_lt (by omega) (by omega)] at c
    have : h = 9 := by omega
    subst this
    exact ⟨m.sx (Or.inr ⟨rfl, rfl⟩), v, fun g s hg hs => (ex_sx_ne (by omega)).trans (h4 g s (by omega) hs), by rw [ex_sx_eq]; exact h3⟩
  · intro t S x2 x3 T I c r U w c2 q
    obtain ⟨m, v, h, h1, h2, h3, h4⟩ := I q
    rw [h2, show (9 : Int32) = Int32.ofNat 9 from rfl, n32_lt (by omega) (by omega)] at c
    obtain ⟨w1, w2⟩ := w h ⟨h2, by omega, m.2.2.1.2.1, m.2.2.1.2.2.2.2⟩
    have en : T.1 (t + 5) = S.1 28 := by funext j; exact m.2.2.2.2.2.2.2 j
    rw [en] at w2
    refine ⟨m.cw w1, fun tc e ht j => by rw [w1.1]; exact v tc e ht j, h + 1, by omega, by rw [h2]; exact n32_s _, ?_, fun g s hg hs => ?_⟩
    · have y := w2
      rw [c2, wchi_cg 10 (fun s hs => h4 h s (Nat.le_refl _) hs)] at y
      unfold wrest
      rw [if_pos y.symm]; exact h3
    · by_cases z : g = h + 1
      · subst z
        rw [w1.2.2 s hs, en, h4 h s (Nat.le_refl _) hs]; rfl
      · rw [w1.2.1 _ _ (fun y => by omega)]; exact h4 g s (by omega) hs
  · intro t S x2 x3 T I c r U w c2 q
    obtain ⟨m, v, h, h1, h2, h3, h4⟩ := I q
    rw [h2, show (9 : Int32) = Int32.ofNat 9 from rfl, n32_lt (by omega) (by omega)] at c
    obtain ⟨w1, w2⟩ := w h ⟨h2, by omega, m.2.2.1.2.1, m.2.2.1.2.2.2.2⟩
    have en : T.1 (t + 5) = S.1 28 := by funext j; exact m.2.2.2.2.2.2.2 j
    rw [en] at w2
    refine ⟨m.cw w1, fun tc e ht j => by rw [w1.1]; exact v tc e ht j, h + 1, by omega, by rw [h2]; exact n32_s _, ?_, fun g s hg hs => ?_⟩
    · have y := w2
      rw [wchi_cg 10 (fun s hs => h4 h s (Nat.le_refl _) hs)] at y
      unfold wrest
      rw [if_neg (fun z => c2 (y.trans z)), h2]
    · by_cases z : g = h + 1
      · subst z
        rw [w1.2.2 s hs, en, h4 h s (Nat.le_refl _) hs]; rfl
      · rw [w1.2.1 _ _ (fun y => by omega)]; exact h4 g s (by omega) hs
/-- a ROW is made at t -/
def mR (t : Nat) (S S' : ex_S) : Prop := t + 1 = S.2.2.2.2 → 72 ≤ t → S.2.2.2.1 26 = 200 → lowEq t S S' ∧ S'.2.2.2.2 = t + 2 ∧ S'.2.2.1 t 1 = some (t + 1) ∧ S'.1 t 0 = S.1 25 4 ∧ ∀ n, S.1 25 4 = Int32.ofNat n → n ≤ 12 → ∀ j, j < n → S'.1 (t + 1) j = S.1 26 j
theorem ec47c : es47 mR := by
  refine ev47 ec45c ?_
  intro t S r S3 h q1 q2 q3
  obtain ⟨c1, c2, c3, c4⟩ := h
  rw [sx2] at c1 c2 c3 c4
  rw [← q1] at c1 c2 c3 c4
  have L : lowEq t S S3 := ((lowEq.refl t S).sx (Nat.le_refl _)).trans (c3.mono (by omega))
  refine ⟨L.sz (Nat.le_refl _), c2, ?_, ((c3 t (by omega)).1 0).trans ex_sx_eq, fun n e hn j hj => ?_⟩
  · rw [sz_eq]; exact c1
  · refine (c4 n e ?_ ?_ (by omega) j hj).trans (ex_sx_ne (by omega))
    · rw [q3]; omega
    · rw [q3]; omega
/-- a HOUSE is made at t -/
def mH (t : Nat) (S S' : ex_S) : Prop := t + 1 = S.2.2.2.2 → 72 ≤ t → S.2.2.2.1 26 = 200 → lowEq t S S' ∧ S'.2.2.2.2 = t + 2 ∧ S'.2.2.1 t 1 = some (t + 1) ∧ S'.1 t 0 = S.1 25 4 ∧ ∀ n, S.1 25 4 = Int32.ofNat n → n ≤ 50 → ∀ j, j < 4 * n → S'.1 (t + 1) j = S.1 26 j
theorem ec54c : es54 mH := by
  refine ev54 ec45c ?_
  intro t S r S3 h q1 q2 q3
  obtain ⟨c1, c2, c3, c4⟩ := h
  rw [sx2] at c1 c2 c3 c4
  rw [← q1] at c1 c2 c3 c4
  have L : lowEq t S S3 := ((lowEq.refl t S).sx (Nat.le_refl _)).trans (c3.mono (by omega))
  refine ⟨L.sz (Nat.le_refl _), c2, ?_, ((c3 t (by omega)).1 0).trans ex_sx_eq, fun n e hn j hj => ?_⟩
  · rw [sz_eq]; exact c1
  · refine (c4 (4 * n) (by rw [e]; exact n32_m4 n) ?_ ?_ (by omega) j hj).trans (ex_sx_ne (by omega))
    · rw [q3]; omega
    · rw [q3]; omega
