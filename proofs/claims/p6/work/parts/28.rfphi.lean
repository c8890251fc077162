/-! the n-th TREE: how many parts there are -/
def rf_sg (f g : Nat → Int32) (p : Nat) : Nat → Int
  | 0 => 0
  | k + 1 => rf_sg f g p k + (2 * ((g (p + k)).toInt - (f (p + k)).toInt) + 1)
theorem rf_sg_head (f g : Nat → Int32) (p : Nat) : ∀ k, rf_sg f g p (k + 1) = (2 * ((g p).toInt - (f p).toInt) + 1) + rf_sg f g (p + 1) k
  | 0 => by
    show 0 + _ = _ + (0 : Int)
    rw [Int.zero_add, Int.add_zero, Nat.add_zero]
  | k + 1 => by
    have ih := rf_sg_head f g p k
    have e1 : rf_sg f g p (k + 1 + 1) = rf_sg f g p (k + 1) + (2 * ((g (p + (k + 1))).toInt - (f (p + (k + 1))).toInt) + 1) := rfl
    have e2 : rf_sg f g (p + 1) (k + 1) = rf_sg f g (p + 1) k + (2 * ((g (p + 1 + k)).toInt - (f (p + 1 + k)).toInt) + 1) := rfl
    have e3 : p + (k + 1) = p + 1 + k := by omega
    rw [e1, ih, e2, e3]
    omega
theorem rf_sg_congr {f g f' g' : Nat → Int32} {p : Nat} : ∀ k, (∀ i, i < k → f' (p + i) = f (p + i) ∧ g' (p + i) = g (p + i)) → rf_sg f' g' p k = rf_sg f g p k
  | 0, _ => rfl
  | k + 1, h => by
    have ih := rf_sg_congr (f := f) (g := g) (f' := f') (g' := g') (p := p) k (fun i hi => h i (by omega))
    show rf_sg f' g' p k + _ = rf_sg f g p k + _
    rw [ih, (h k (by omega)).1, (h k (by omega)).2]
theorem rf_sg_ge {f g : Nat → Int32} {p : Nat} : ∀ k, (∀ i, i < k → (f (p + i)).toInt ≤ (g (p + i)).toInt) → (k : Int) ≤ rf_sg f g p k
  | 0, _ => Int.le_refl 0
  | k + 1, h => by
    have ih := rf_sg_ge (f := f) (g := g) (p := p) k (fun i hi => h i (by omega))
    have h1 := h k (by omega)
    show ((k + 1 : Nat) : Int) ≤ rf_sg f g p k + (2 * ((g (p + k)).toInt - (f (p + k)).toInt) + 1)
    omega
def rf_phi (h : pm_H) (n p : Int32) : Prop := ∃ f g : Nat → Int32, h.2.2 58 = .inl (0, 24, .inl f) ∧ h.2.2 59 = .inl (0, 24, .inl g) ∧ 0 ≤ p.toInt ∧ p.toInt ≤ n.toInt ∧ (∀ q : Nat, p.toInt.toNat ≤ q → q < n.toInt.toNat → (f q).toInt ≤ (g q).toInt) ∧ p.toInt + rf_sg f g p.toInt.toNat (n.toInt.toNat - p.toInt.toNat) ≤ 23
theorem rf_phi_B {h : pm_H} {n p : Int32} (X : rf_phi h n p) : sf_B 0 23 n := by
  obtain ⟨f, g, -, -, h1, h2, h3, h4⟩ := X
  have := rf_sg_ge (f := f) (g := g) (p := p.toInt.toNat) (n.toInt.toNat - p.toInt.toNat) (fun i hi => h3 _ (by omega) (by omega))
  unfold sf_B; omega
theorem rf_phi_leaf {h h' : pm_H} {n n' p z : Int32} {A : List Nat} (X : rf_phi h n p) (hlt : p < n) (G : rf_G A h h') (ha : 58 ∉ A ∧ 59 ∉ A) (hn : n' = n) (hz : z.toInt = p.toInt + 1) : rf_phi h' n' z := by
  subst hn
  obtain ⟨f, g, ef, eg, h1, h2, h3, h4⟩ := X
  have hl := Int32.lt_iff_toInt_lt.mp hlt
  refine ⟨f, g, by rw [G.2.2 58 ha.1]; exact ef, by rw [G.2.2 59 ha.2]; exact eg, by omega, by omega, fun q q1 q2 => h3 q (by omega) q2, ?_⟩
  have e1 : n'.toInt.toNat - p.toInt.toNat = (n'.toInt.toNat - z.toInt.toNat) + 1 := by omega
  have e2 : z.toInt.toNat = p.toInt.toNat + 1 := by omega
  rw [e1, rf_sg_head, ← e2] at h4
  have := h3 p.toInt.toNat (Nat.le_refl _) (by omega)
  omega
theorem rf_phi_room {h : pm_H} {n p u v : Int32} {f g : Nat → Int32} (X : rf_phi h n p) (hlt : p < n) (ef : h.2.2 58 = .inl (0, 24, .inl f)) (eg : h.2.2 59 = .inl (0, 24, .inl g)) (eu : f p.toNatClampNeg = u) (ev : g p.toNatClampNeg = v) (hne : ¬ u = v) : sf_B 0 21 n := by
  obtain ⟨f', g', ef', eg', h1, h2, h3, h4⟩ := X
  rw [ef] at ef'
  rw [eg] at eg'
  cases ef'
  cases eg'
  have hl := Int32.lt_iff_toInt_lt.mp hlt
  have e0 : p.toNatClampNeg = p.toInt.toNat := rfl
  have h5 := h3 p.toInt.toNat (Nat.le_refl _) (by omega)
  rw [← e0, eu, ev] at h5
  have h6 : u.toInt ≠ v.toInt := fun e => hne (Int32.toInt_inj.mp e)
  have e1 : n.toInt.toNat - p.toInt.toNat = (n.toInt.toNat - (p.toInt.toNat + 1)) + 1 := by omega
  rw [e1, rf_sg_head, ← e0, eu, ev] at h4
  have := rf_sg_ge (f := f) (g := g) (p := p.toNatClampNeg + 1) (n.toInt.toNat - (p.toNatClampNeg + 1)) (fun i hi => h3 _ (by omega) (by omega))
  unfold sf_B; omega
def rf_sp (h h' : pm_H) (n n' p : Int32) : Prop := ∀ f g : Nat → Int32, h.2.2 58 = .inl (0, 24, .inl f) → h.2.2 59 = .inl (0, 24, .inl g) → (h'.2.2 58 = .inl (0, 24, .inl f) ∧ h'.2.2 59 = .inl (0, 24, .inl g) ∧ n'.toInt = n.toInt) ∨ ∃ c c1 n1 n2 u v : Int32, f p.toNatClampNeg = u ∧ g p.toNatClampNeg = v ∧ u.toInt ≤ c.toInt ∧ c.toInt < v.toInt ∧ c1.toInt = c.toInt + 1 ∧ n1.toInt = n.toInt ∧ n2.toInt = n.toInt + 1 ∧ n'.toInt = n.toInt + 2 ∧ h'.2.2 58 = .inl (0, 24, .inl (upd (upd f n1.toNatClampNeg u) n2.toNatClampNeg c1)) ∧ h'.2.2 59 = .inl (0, 24, .inl (upd (upd g n1.toNatClampNeg c) n2.toNatClampNeg v))
theorem rf_phi_split {h h' : pm_H} {n n' p z : Int32} (X : rf_phi h n p) (hlt : p < n) (S : rf_sp h h' n n' p) (hz : z.toInt = p.toInt + 1) : rf_phi h' n' z := by
  obtain ⟨f, g, ef, eg, h1, h2, h3, h4⟩ := X
  have hl := Int32.lt_iff_toInt_lt.mp hlt
  have e0 : p.toNatClampNeg = p.toInt.toNat := rfl
  have e1 : n.toInt.toNat - p.toInt.toNat = (n.toInt.toNat - z.toInt.toNat) + 1 := by omega
  have e2 : z.toInt.toNat = p.toInt.toNat + 1 := by omega
  rw [e1, rf_sg_head, ← e2] at h4
  have h5 := h3 p.toInt.toNat (Nat.le_refl _) (by omega)
  rcases S f g ef eg with ⟨s1, s2, s3⟩ | ⟨c, c1, n1, n2, u, v, su, sv, s1, s2, s3, s4, s5, s6, s7, s8⟩
  · refine ⟨f, g, s1, s2, by omega, by omega, fun q q1 q2 => h3 q (by omega) (by omega), ?_⟩
    rw [s3]
    omega
  · rw [e0] at su sv
    have k1 : n1.toNatClampNeg = n.toInt.toNat := by show n1.toInt.toNat = _; omega
    have k2 : n2.toNatClampNeg = n.toInt.toNat + 1 := by show n2.toInt.toNat = _; omega
    rw [k1, k2] at s7 s8
    refine ⟨_, _, s7, s8, by omega, by omega, ?_, ?_⟩
    · intro q q1 q2
      unfold upd
      by_cases a1 : q = n.toInt.toNat + 1
      · rw [if_pos a1, if_pos a1]; omega
      · rw [if_neg a1, if_neg a1]
        by_cases a2 : q = n.toInt.toNat
        · rw [if_pos a2, if_pos a2]; omega
        · rw [if_neg a2, if_neg a2]; exact h3 q (by omega) (by omega)
    · have e3 : n'.toInt.toNat - z.toInt.toNat = (n.toInt.toNat - z.toInt.toNat) + 1 + 1 := by omega
      have e4 : z.toInt.toNat + (n.toInt.toNat - z.toInt.toNat) = n.toInt.toNat := by omega
      rw [e3]
      show _ + (rf_sg _ _ _ (n.toInt.toNat - z.toInt.toNat) + _ + _) ≤ 23
      rw [rf_sg_congr (f := f) (g := g) (n.toInt.toNat - z.toInt.toNat) (fun i hi => by
        unfold upd
        rw [if_neg (by omega), if_neg (by omega), if_neg (by omega), if_neg (by omega)]
        exact ⟨rfl, rfl⟩)]
      have e5 : z.toInt.toNat + (n.toInt.toNat - z.toInt.toNat + 1) = n.toInt.toNat + 1 := by omega
      rw [e4, e5]
      have a1 : upd (upd g n.toInt.toNat c) (n.toInt.toNat + 1) v n.toInt.toNat = c := by unfold upd; rw [if_neg (by omega), if_pos rfl]
      have a2 : upd (upd f n.toInt.toNat u) (n.toInt.toNat + 1) c1 n.toInt.toNat = u := by unfold upd; rw [if_neg (by omega), if_pos rfl]
      have a3 : upd (upd g n.toInt.toNat c) (n.toInt.toNat + 1) v (n.toInt.toNat + 1) = v := by unfold upd; rw [if_pos rfl]
      have a4 : upd (upd f n.toInt.toNat u) (n.toInt.toNat + 1) c1 (n.toInt.toNat + 1) = c1 := by unfold upd; rw [if_pos rfl]
      rw [a1, a2, a3, a4]
      rw [su, sv] at h4
      omega
theorem rf_phi_0 {h : pm_H} {n p j x y : Int32} {f g : Nat → Int32} {a : Int} (ef : h.2.2 58 = .inl (0, 24, .inl (upd f j.toNatClampNeg x))) (eg : h.2.2 59 = .inl (0, 24, .inl (upd g j.toNatClampNeg y))) (hj : j.toInt = 0) (hx : x.toInt = 0) (By : sf_B a 11 y) (ha : 0 ≤ a) (hn : n.toInt = 1) (hp : p.toInt = 0) : rf_phi h n p := by
  have e0 : j.toNatClampNeg = 0 := by show j.toInt.toNat = 0; omega
  rw [e0] at ef eg
  have y1 := By.1; have y2 := By.2
  refine ⟨_, _, ef, eg, by omega, by omega, fun q q1 q2 => ?_, ?_⟩
  · have : q = 0 := by omega
    unfold upd
    rw [if_pos this, if_pos this]; omega
  · rw [hn, hp]
    show (0 : Int) + (0 + (2 * ((upd g 0 y 0).toInt - (upd f 0 x 0).toInt) + 1)) ≤ 23
    have a1 : upd g 0 y 0 = y := rfl
    have a2 : upd f 0 x 0 = x := rfl
    rw [a1, a2]; omega
theorem rf_nz {l n b y : Int64} {f : Nat → Int64} {j1 j2 : Int32} {a c : Int} (hlt : l.toInt < n.toInt) (B : lf_B a c l) (ha : 0 ≤ a) (X : b = 0 → n.toInt = 0) (e1 : f j1.toNatClampNeg = b) (e2 : f j2.toNatClampNeg = y) (hj : j1.toInt = j2.toInt) : ¬ y = 0 := by
  intro hy
  have : j1 = j2 := Int32.toInt_inj.mp hj
  subst this
  rw [e1] at e2
  have := X (by rw [e2]; exact hy)
  have := B.1
  omega
