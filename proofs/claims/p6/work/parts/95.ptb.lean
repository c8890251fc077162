/-! TEXT of the reference -/
/-- row t of rows of w in T is now what cell 51 holds, i numbers of it -/
def sti (T U : Nat → Int32) (w t i j : Nat) : Int32 := if w * t ≤ j ∧ j < w * t + i then U (j - w * t) else T j
theorem sti_0 (T U : Nat → Int32) (w t j : Nat) : sti T U w t 0 j = T j := by
  unfold sti
  rw [if_neg (fun z => by omega)]
theorem sti_s (T U : Nat → Int32) (w t i j : Nat) : sti T U w t (i + 1) j = if j = w * t + i then U i else sti T U w t i j := by
  unfold sti
  by_cases e : j = w * t + i
  · rw [if_pos e, if_pos (show w * t ≤ j ∧ j < w * t + (i + 1) from ⟨by omega, by omega⟩), show j - w * t = i by omega]
  · rw [if_neg e]
    by_cases q : w * t ≤ j ∧ j < w * t + i
    · rw [if_pos q, if_pos (show w * t ≤ j ∧ j < w * t + (i + 1) from ⟨q.1, by omega⟩)]
    · rw [if_neg q, if_neg (show ¬ (w * t ≤ j ∧ j < w * t + (i + 1)) from fun z => q ⟨z.1, by omega⟩)]
def stC (c : Nat) (a1 a2 : Int32) (S S' : ex_S) : Prop := ex_fx (fun b _ => b = c) S S' ∧ ∀ w t, a1 = Int32.ofNat w → a2 = Int32.ofNat t → w ≤ 700 → t ≤ 3 → c ≠ 51 → ∀ j, S'.1 c j = sti (S.1 c) (S.1 51) w t w j
def stI (c : Nat) (a1 a2 : Int32) (S : ex_S) (x : Int32) (T : ex_S) : Prop := ex_fx (fun b _ => b = c) S T ∧ ∀ w t, a1 = Int32.ofNat w → a2 = Int32.ofNat t → w ≤ 700 → t ≤ 3 → c ≠ 51 → ∃ i, i ≤ w ∧ x = Int32.ofNat i ∧ ∀ j, T.1 c j = sti (S.1 c) (S.1 51) w t i j
theorem ec193 : es193 stC := by
  refine ev193 (I3 := stI) ?_ ?_ ?_
  · intro c a1 a2 S
    exact ⟨ex_fx.refl _ S, fun w t _ _ _ _ _ => ⟨0, Nat.zero_le _, rfl, fun j => (sti_0 _ _ _ _ _).symm⟩⟩
  · intro c a1 a2 S x T h q
    refine ⟨h.1, fun w t e1 e2 hw ht hc => ?_⟩
    obtain ⟨i, i1, i2, i3⟩ := h.2 w t e1 e2 hw ht hc
    rw [e1, i2, n32_le (by omega) (by omega)] at q
    have : i = w := by omega
    subst this
    exact i3
  · intro c a1 a2 S x T h q
    refine ⟨h.1.sx rfl, fun w t e1 e2 hw ht hc => ?_⟩
    obtain ⟨i, i1, i2, i3⟩ := h.2 w t e1 e2 hw ht hc
    rw [e1, i2, n32_le (by omega) (by omega)] at q
    refine ⟨i + 1, by omega, by rw [i2]; exact n32_s i, fun j => ?_⟩
    rw [ex_sx_at, e1, e2, i2, ro_ix hw ht (by omega), n32_tn (by omega), h.1.1 51 i (fun z => hc z.symm), sti_s]
    by_cases z : j = w * t + i
    · rw [if_pos ⟨rfl, z⟩, if_pos z]
    · rw [if_neg (fun y => z y.2), if_neg z]; exact i3 j
def rxq (S : ex_S) (n : Nat) : Prop := S.1 43 0 = Int32.ofNat n ∧ n ≤ 600 ∧ (∀ i, sf_B (-128) 127 (S.1 42 i)) ∧ ∀ k, k < 4 → sf_B 0 3 (S.1 46 k) ∧ S.1 46 k ≤ vf176 (Int32.ofNat k)
/-- rows other than the first stay -/
def rxo (S S' : ex_S) : Prop := (∀ j, 1 ≤ j → S'.1 43 j = S.1 43 j ∧ S'.1 44 j = S.1 44 j ∧ S'.1 45 j = S.1 45 j) ∧ (∀ j, 4 ≤ j → S'.1 46 j = S.1 46 j) ∧ ∀ k, S'.1 71 k = S.1 71 k
def rxC (s at_ : Int32) (S : ex_S) (v : Int32) (S' : ex_S) : Prop := (∀ k, S'.1 42 k = S.1 42 k) ∧ S'.1 43 0 = 0 ∧ ∀ n, rxq S n → rxo S S' ∧ txC (fun S => S.1 44 0) (fun S => S.1 45 0) (fun S => S.1 46) s at_ (vf176 s) (ps_text s (S.1 42) n) S v S'
def rx0 (S : ex_S) : ex_S := ex_sx (ex_sx (ex_sx (ex_sx (ex_sx S 41 0 0) 41 11 (S.1 43 0)) 43 0 0) 44 0 0) 45 0 (-1)
theorem rx0_fx (S : ex_S) : ex_fx (fun c k => (c = 41 ∧ (k = 0 ∨ k = 11)) ∨ ((c = 43 ∨ c = 44 ∨ c = 45) ∧ k = 0)) S (rx0 S) :=
  (((((ex_fx.refl _ S).sx (by omega)).sx (by omega)).sx (by omega)).sx (by omega)).sx (by omega)
theorem rx_no {s at_ : Int32} {S : ex_S} (h : ∀ n, rxq S n → ¬ txok s at_ (S.1 46 s.toNatClampNeg) (vf176 s)) : rxC s at_ S (-2) (rx0 S) :=
  ⟨fun k => (rx0_fx S).1 42 k (by omega), rfl, fun n q => ⟨⟨fun j hj => ⟨(rx0_fx S).1 43 j (by omega), (rx0_fx S).1 44 j (by omega), (rx0_fx S).1 45 j (by omega)⟩, fun j _ => (rx0_fx S).1 46 j (by omega), fun k => (rx0_fx S).1 71 k (by omega)⟩, fun _ => ⟨rfl, rfl, rfl, fun k _ => (rx0_fx S).1 46 k (by omega)⟩, fun z => absurd z (h n q)⟩⟩
theorem rx_q {S : ex_S} {n : Nat} (q : rxq S n) : rq178 (rx0 S) n ∧ (rx0 S).1 42 = S.1 42 := by
  have e : (rx0 S).1 42 = S.1 42 := by funext j; exact (rx0_fx S).1 42 j (by omega)
  refine ⟨⟨?_, q.2.1, fun i => by rw [e]; exact q.2.2.1 i⟩, e⟩
  show (rx0 S).1 41 11 = _
  unfold rx0
  rw [ex_sx_ne (by omega), ex_sx_ne (by omega), ex_sx_ne (by omega), ex_sx_eq]; exact q.1
/-- what the reader has done -/
theorem rx_rd {s r : Int32} {S S9 : ex_S} (h : rc178 s (rx0 S) r S9) : (∀ a k, ¬ rpt a k → S9.1 a k = (rx0 S).1 a k) ∧ ∀ n, rxq S n → S9.1 44 0 = pf (ps_text s (S.1 42) n) ∧ S9.1 45 0 = pp (ps_text s (S.1 42) n) ∧ (∀ j, 1 ≤ j → S9.1 44 j = S.1 44 j ∧ S9.1 45 j = S.1 45 j) ∧ (r = 0 ↔ pf (ps_text s (S.1 42) n) ≠ 0) := by
  refine ⟨h.1.1, fun n q => ?_⟩
  obtain ⟨q1, e⟩ := rx_q q
  have g := h.2 n q1
  rw [e] at g
  exact ⟨g.1, g.2.1, fun j hj => ⟨(g.2.2.1 j hj).1.trans ((rx0_fx S).1 44 j (by omega)), (g.2.2.1 j hj).2.trans ((rx0_fx S).1 45 j (by omega))⟩, g.2.2.2.1⟩
theorem rx_bad {s at_ r : Int32} {S S9 : ex_S} (ok : ∀ n, rxq S n → txok s at_ (S.1 46 s.toNatClampNeg) (vf176 s)) (h : rc178 s (rx0 S) r S9) (c : r = 0) : rxC s at_ S (-1) S9 := by
  obtain ⟨F, g⟩ := rx_rd h
  refine ⟨fun k => ?_, ?_, fun n q => ?_⟩
  · rw [F 42 k (by unfold rpt rpl; omega)]; exact (rx0_fx S).1 42 k (by omega)
  · rw [F 43 0 (by unfold rpt rpl; omega)]; rfl
  · obtain ⟨g1, g2, g3, g4⟩ := g n q
    refine ⟨⟨fun j hj => ⟨?_, g3 j hj⟩, fun j _ => ?_, fun k => ?_⟩, fun z => absurd (ok n q) z, fun _ => ⟨g1, g2, fun _ => ⟨rfl, fun k _ => ?_⟩, fun z => absurd z (g4.mp c)⟩⟩
    · rw [F 43 j (by unfold rpt rpl; omega)]; exact (rx0_fx S).1 43 j (by omega)
    · rw [F 46 j (by unfold rpt rpl; omega)]; exact (rx0_fx S).1 46 j (by omega)
    · rw [F 71 k (by unfold rpt rpl; omega)]; exact (rx0_fx S).1 71 k (by omega)
    · show S9.1 46 k = S.1 46 k
      rw [F 46 k (by unfold rpt rpl; omega)]; exact (rx0_fx S).1 46 k (by omega)
theorem rx_good {s at_ r v : Int32} {S S9 S' : ex_S} {b : Nat} {w at2 d : Int32} (ok : ∀ n, rxq S n → txok s at_ (S.1 46 s.toNatClampNeg) (vf176 s)) (h : rc178 s (rx0 S) r S9) (c : ¬ r = 0) (hb : 47 ≤ b ∧ b ≤ 50) (h2 : stC b w at2 (ex_sx S9 46 s.toNatClampNeg ((S9.1 46 s.toNatClampNeg) + d)) S') (hd : d = if at_ = -1 then 1 else 0) (hv : v = if at_ = -1 then S9.1 46 s.toNatClampNeg else at_) (hs : 0 ≤ s ∧ s ≤ 3) : rxC s at_ S v S' := by
  obtain ⟨F, g⟩ := rx_rd h
  have s4 : s.toNatClampNeg < 4 := by
    have h1 := Int32.le_iff_toInt_le.mp hs.1
    have h3 := Int32.le_iff_toInt_le.mp hs.2
    have e0 : (0 : Int32).toInt = 0 := rfl
    have e3 : (3 : Int32).toInt = 3 := rfl
    rw [e0] at h1; rw [e3] at h3
    show s.toInt.toNat < 4
    omega
  have K : ∀ a k, ¬ (a = 46 ∧ k = s.toNatClampNeg) → ¬ a = b → ¬ rpt a k → S'.1 a k = (rx0 S).1 a k := fun a k z1 z2 z3 => by
    rw [h2.1.1 a k z2, ex_sx_ne z1, F a k z3]
  have k46 : ∀ k, S'.1 46 k = if at_ = -1 ∧ k = s.toNatClampNeg then S.1 46 s.toNatClampNeg + 1 else S.1 46 k := fun k => by
    have e9 : ∀ k, S9.1 46 k = S.1 46 k := fun k => by rw [F 46 k (by unfold rpt rpl; omega)]; exact (rx0_fx S).1 46 k (by omega)
    rw [h2.1.1 46 k (by omega), ex_sx_at, e9, e9, hd]
    by_cases z : k = s.toNatClampNeg
    · rw [if_pos ⟨rfl, z⟩]
      by_cases y : at_ = -1
      · rw [if_pos y, if_pos ⟨y, z⟩]
      · rw [if_neg y, if_neg (fun w => y w.1), z]; exact Int32.add_zero _
    · rw [if_neg (fun w => z w.2), if_neg (fun w => z w.2)]
  refine ⟨fun k => ?_, ?_, fun n q => ?_⟩
  · rw [K 42 k (by omega) (by omega) (by unfold rpt rpl; omega)]; exact (rx0_fx S).1 42 k (by omega)
  · rw [K 43 0 (by omega) (by omega) (by unfold rpt rpl; omega)]; rfl
  · obtain ⟨g1, g2, g3, g4⟩ := g n q
    have l44 : ∀ k, S'.1 44 k = S9.1 44 k := fun k => by rw [h2.1.1 44 k (by omega), ex_sx_ne (by omega)]
    have l45 : ∀ k, S'.1 45 k = S9.1 45 k := fun k => by rw [h2.1.1 45 k (by omega), ex_sx_ne (by omega)]
    have pz : pf (ps_text s (S.1 42) n) = 0 := Classical.not_not.mp (fun z => c (g4.mpr z))
    refine ⟨⟨fun j hj => ⟨?_, (l44 j).trans (g3 j hj).1, (l45 j).trans (g3 j hj).2⟩, fun j hj => ?_, fun k => ?_⟩, fun z => absurd (ok n q) z, fun _ => ⟨(l44 0).trans g1, (l45 0).trans g2, fun z => absurd pz z, fun _ => ⟨?_, fun k _ => k46 k⟩⟩⟩
    · rw [K 43 j (by omega) (by omega) (by unfold rpt rpl; omega)]; exact (rx0_fx S).1 43 j (by omega)
    · rw [k46, if_neg (fun z => by omega)]
    · rw [K 71 k (by omega) (by omega) (by unfold rpt rpl; omega)]; exact (rx0_fx S).1 71 k (by omega)
    · rw [hv]
      by_cases y : at_ = -1
      · rw [if_pos y, if_pos y, F 46 _ (by unfold rpt rpl; omega)]; exact (rx0_fx S).1 46 _ (by omega)
      · rw [if_neg y, if_neg y]
theorem vf174_y {v lo hi : Int32} (h : ¬ vf174 v lo hi = 0) : lo ≤ v ∧ v ≤ hi := by
  unfold vf174 at h
  rw [vf_0] at h
  exact Classical.not_not.mp h
theorem vf174_n {v lo hi : Int32} (h : vf174 v lo hi = 0) : ¬ (lo ≤ v ∧ v ≤ hi) := by
  unfold vf174 at h
  rw [vf_0] at h
  exact h
/-- the two ways of asking whether there is room, whether it is there -/
theorem rx_at {s c a : Int32} (hc : sf_B 0 3 c) : (0 ≤ a ∧ a ≤ c - 1) ↔ (0 ≤ a ∧ a < c) := by
  obtain ⟨c0, c3⟩ := hc
  have e : (c - 1).toInt = c.toInt - 1 := by
    rw [Int32.toInt_sub, show (1 : Int32).toInt = 1 from rfl]
    exact Int.bmod_eq_of_le (by omega) (by omega)
  rw [Int32.le_iff_toInt_le (x := a) (y := c - 1), e, Int32.lt_iff_toInt_lt (x := a) (y := c)]
  constructor
  · intro z; exact ⟨z.1, by omega⟩
  · intro z; exact ⟨z.1, by omega⟩
theorem s4_of {s : Int32} (hs : 0 ≤ s ∧ s ≤ 3) : s.toNatClampNeg < 4 ∧ s = Int32.ofNat s.toNatClampNeg := by
  have h1 := Int32.le_iff_toInt_le.mp hs.1
  have h3 := Int32.le_iff_toInt_le.mp hs.2
  have e0 : (0 : Int32).toInt = 0 := rfl
  have e3 : (3 : Int32).toInt = 3 := rfl
  rw [e0] at h1; rw [e3] at h3
  have e : s.toNatClampNeg = s.toInt.toNat := rfl
  have l : s.toNatClampNeg < 4 := by omega
  refine ⟨l, ?_⟩
  apply Int32.toInt_inj.mp
  rw [n32_i (by omega)]
  omega
theorem rx_ok1 {s a : Int32} {S : ex_S} (c : ¬ (vf174 s 0 3 = 0)) (c1 : ¬ a = (-1)) (c2 : ¬ vf174 a 0 ((S.1 46 s.toNatClampNeg) - 1) = 0) (n : Nat) (q : rxq S n) : txok s a (S.1 46 s.toNatClampNeg) (vf176 s) :=
  ⟨(vf174_y c).1, (vf174_y c).2, fun z => absurd z c1, fun _ => (rx_at (s := s) (q.2.2.2 _ (s4_of (vf174_y c)).1).1).mp (vf174_y c2)⟩
theorem rx_ok2 {s a : Int32} {S : ex_S} (c : ¬ (vf174 s 0 3 = 0)) (c1 : a = (-1)) (c2 : ¬ S.1 46 s.toNatClampNeg = vf176 s) (n : Nat) (q : rxq S n) : txok s a (S.1 46 s.toNatClampNeg) (vf176 s) := by
  obtain ⟨s4, es⟩ := s4_of (vf174_y c)
  refine ⟨(vf174_y c).1, (vf174_y c).2, fun _ => ?_, fun z => absurd c1 z⟩
  have g := (q.2.2.2 _ s4).2
  rw [← es] at g
  rcases Int32.lt_or_eq_of_le g with z | z
  · exact z
  · exact absurd z c2
theorem ec175 : es175 rxC := by
  refine ev175 ec178 ec193 ?_ ?_ ?_ ?_ ?_ ?_ ?_ ?_ ?_ ?_ ?_ ?_ ?_
  · intro s a S c
    exact rx_no (fun n q z => vf174_n c ⟨z.1, z.2.1⟩)
  · intro s a S c c1 c2 r S9 h9 c3 _ S' h'
    exact rx_good (rx_ok1 c c1 c2) h9 c3 (by omega) h' (if_neg c1).symm (if_neg c1).symm (vf174_y c)
  · intro s a S c c1 c2 r S9 h9 c3 _ _ S' h'
    exact rx_good (rx_ok1 c c1 c2) h9 c3 (by omega) h' (if_neg c1).symm (if_neg c1).symm (vf174_y c)
  · intro s a S c c1 c2 r S9 h9 c3 _ _ _ S' h'
    exact rx_good (rx_ok1 c c1 c2) h9 c3 (by omega) h' (if_neg c1).symm (if_neg c1).symm (vf174_y c)
  · intro s a S c c1 c2 r S9 h9 c3 _ _ _ S' h'
    exact rx_good (rx_ok1 c c1 c2) h9 c3 (by omega) h' (if_neg c1).symm (if_neg c1).symm (vf174_y c)
  · intro s a S c c1 c2 r S9 h9 c3
    exact rx_bad (rx_ok1 c c1 c2) h9 (Classical.not_not.mp c3)
  · intro s a S c c1 c2
    refine rx_no (fun n q z => vf174_n (Classical.not_not.mp c2) ?_)
    exact (rx_at (s := s) (q.2.2.2 _ (s4_of (vf174_y c)).1).1).mpr (z.2.2.2 c1)
  · intro s a S c c1 c2 r S9 h9 c3 _ S' h'
    have c1 := Classical.not_not.mp c1
    exact rx_good (rx_ok2 c c1 c2) h9 c3 (by omega) h' (if_pos c1).symm (if_pos c1).symm (vf174_y c)
  · intro s a S c c1 c2 r S9 h9 c3 _ _ S' h'
    have c1 := Classical.not_not.mp c1
    exact rx_good (rx_ok2 c c1 c2) h9 c3 (by omega) h' (if_pos c1).symm (if_pos c1).symm (vf174_y c)
  · intro s a S c c1 c2 r S9 h9 c3 _ _ _ S' h'
    have c1 := Classical.not_not.mp c1
    exact rx_good (rx_ok2 c c1 c2) h9 c3 (by omega) h' (if_pos c1).symm (if_pos c1).symm (vf174_y c)
  · intro s a S c c1 c2 r S9 h9 c3 _ _ _ S' h'
    have c1 := Classical.not_not.mp c1
    exact rx_good (rx_ok2 c c1 c2) h9 c3 (by omega) h' (if_pos c1).symm (if_pos c1).symm (vf174_y c)
  · intro s a S c c1 c2 r S9 h9 c3
    exact rx_bad (rx_ok2 c (Classical.not_not.mp c1) c2) h9 (Classical.not_not.mp c3)
  · intro s a S c c1 c2
    have c1 := Classical.not_not.mp c1
    have c2 := Classical.not_not.mp c2
    refine rx_no (fun n q z => ?_)
    have l := z.2.2.1 c1
    rw [c2] at l
    exact Int32.lt_irrefl l
