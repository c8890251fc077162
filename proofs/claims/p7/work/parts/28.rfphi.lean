section
/-! the n-th TREE: how many parts there are -/
def rf_sg (f g : Nat → Int32) (p : Nat) : Nat → Int
  | 0 => 0
  | k + 1 => rf_sg f g p k + (2 * ((g (p + k)).toInt - (f (p + k)).toInt) + 1)
theorem rf_sg_head (f g : Nat → Int32) (p : Nat) : ∀ k, rf_sg f g p (k + 1) = (2 * ((g p).toInt - (f p).toInt) + 1) + rf_sg f g (p + 1) k
  | 0 => by
    show 0 + _ = _ + (0 : Int)
    rw [Int.zero_add, Int.add_zero, Nat.add_zero]
  | k + 1 => by
    have ih := rf_sg_head f g p k
    have e1 : rf_sg f g p (k + 1 + 1) = rf_sg f g p (k + 1) + (2 * ((g (p + (k + 1))).toInt - (f (p + (k + 1))).toInt) + 1) := rfl
    have e2 : rf_sg f g (p + 1) (k + 1) = rf_sg f g (p + 1) k + (2 * ((g (p + 1 + k)).toInt - (f (p + 1 + k)).toInt) + 1) := rfl
    have e3 : p + (k + 1) = p + 1 + k := by omega
    rw [e1, ih, e2, e3]
    omega
theorem rf_sg_congr {f g f' g_q : Nat → Int32} {p : Nat} : ∀ k, (∀ i, i < k → f' (p + i) = f (p + i) ∧ g_q (p + i) = g (p + i)) → rf_sg f' g_q p k = rf_sg f g p k
  | 0, _ => rfl
  | k + 1, h => by
    have ih := rf_sg_congr (f := f) (g := g) (f' := f') (g_q := g_q) (p := p) k (fun i hi => h i (by omega))
    show rf_sg f' g_q p k + _ = rf_sg f g p k + _
    rw [ih, (h k (by omega)).1, (h k (by omega)).2]
theorem rf_sg_ge {f g : Nat → Int32} {p : Nat} : ∀ k, (∀ i, i < k → (f (p + i)).toInt ≤ (g (p + i)).toInt) → (k : Int) ≤ rf_sg f g p k
  | 0, _ => Int.le_refl 0
  | k + 1, h => by
    have ih := rf_sg_ge (f := f) (g := g) (p := p) k (fun i hi => h i (by omega))
    have h1 := h k (by omega)
    show ((k + 1 : Nat) : Int) ≤ rf_sg f g p k + (2 * ((g (p + k)).toInt - (f (p + k)).toInt) + 1)
    omega
def rf_phi (h : pm_H) (n p : Int32) : Prop := ∃ f g : Nat → Int32, h.2.2 58 = .inl (0, 24, .inl f) ∧ h.2.2 59 = .inl (0, 24, .inl g) ∧ 0 ≤ p.toInt ∧ p.toInt ≤ n.toInt ∧ (∀ q : Nat, p.toInt.toNat ≤ q → q < n.toInt.toNat → (f q).toInt ≤ (g q).toInt) ∧ p.toInt + rf_sg f g p.toInt.toNat (n.toInt.toNat - p.toInt.toNat) ≤ 23
theorem rf_phi_B {h : pm_H} {n p : Int32} (X : rf_phi h n p) : sf_B 0 23 n := by
  obtain ⟨f, g, -, -, h1, h2, h3, h4⟩ := X
  have := rf_sg_ge (f := f) (g := g) (p := p.toInt.toNat) (n.toInt.toNat - p.toInt.toNat) (fun i hi => h3 _ (by omega) (by omega))
  unfold sf_B; omega
theorem rf_phi_leaf {h h_q : pm_H} {n n_q p z : Int32} {A : List Nat} (X : rf_phi h n p) (hlt : p < n) (G : rf_G A h h_q) (ha : 58 ∉ A ∧ 59 ∉ A) (hn : n_q = n) (hz : z.toInt = p.toInt + 1) : rf_phi h_q n_q z := by
  subst hn
  obtain ⟨f, g, ef, eg, h1, h2, h3, h4⟩ := X
  have hl := Int32.lt_iff_toInt_lt.mp hlt
  refine ⟨f, g, by rw [G.2.2 58 ha.1]; exact ef, by rw [G.2.2 59 ha.2]; exact eg, by omega, by omega, fun q q1 q2 => h3 q (by omega) q2, ?_⟩
  have e1 : n_q.toInt.toNat - p.toInt.toNat = (n_q.toInt.toNat - z.toInt.toNat) + 1 := by omega
  have e2 : z.toInt.toNat = p.toInt.toNat + 1 := by omega
  rw [e1, rf_sg_head, ← e2] at h4
  have := h3 p.toInt.toNat (Nat.le_refl _) (by omega)
  omega
theorem rf_phi_room {h : pm_H} {n p u v : Int32} {f g : Nat → Int32} (X : rf_phi h n p) (hlt : p < n) (ef : h.2.2 58 = .inl (0, 24, .inl f)) (eg : h.2.2 59 = .inl (0, 24, .inl g)) (eu : f p.toNatClampNeg = u) (ev : g p.toNatClampNeg = v) (hne : ¬ u = v) : sf_B 0 21 n := by
  obtain ⟨f', g_q, ef', eg', h1, h2, h3, h4⟩ := X
  rw [ef] at ef'
  rw [eg] at eg'
  cases ef'
  cases eg'
  have hl := Int32.lt_iff_toInt_lt.mp hlt
  have e0 : p.toNatClampNeg = p.toInt.toNat := rfl
  have h5 := h3 p.toInt.toNat (Nat.le_refl _) (by omega)
  rw [← e0, eu, ev] at h5
  have h6 : u.toInt ≠ v.toInt := fun e => hne (Int32.toInt_inj.mp e)
  have e1 : n.toInt.toNat - p.toInt.toNat = (n.toInt.toNat - (p.toInt.toNat + 1)) + 1 := by omega
  rw [e1, rf_sg_head, ← e0, eu, ev] at h4
  have := rf_sg_ge (f := f) (g := g) (p := p.toNatClampNeg + 1) (n.toInt.toNat - (p.toNatClampNeg + 1)) (fun i hi => h3 _ (by omega) (by omega))
  unfold sf_B; omega
def rf_sp (h h_q : pm_H) (n n_q p : Int32) : Prop := ∀ f g : Nat → Int32, h.2.2 58 = .inl (0, 24, .inl f) → h.2.2 59 = .inl (0, 24, .inl g) → (h_q.2.2 58 = .inl (0, 24, .inl f) ∧ h_q.2.2 59 = .inl (0, 24, .inl g) ∧ n_q.toInt = n.toInt) ∨ ∃ c c1 n1 n2 u v : Int32, f p.toNatClampNeg = u ∧ g p.toNatClampNeg = v ∧ u.toInt ≤ c.toInt ∧ c.toInt < v.toInt ∧ c1.toInt = c.toInt + 1 ∧ n1.toInt = n.toInt ∧ n2.toInt = n.toInt + 1 ∧ n_q.toInt = n.toInt + 2 ∧ h_q.2.2 58 = .inl (0, 24, .inl (upd (upd f n1.toNatClampNeg u) n2.toNatClampNeg c1)) ∧ h_q.2.2 59 = .inl (0, 24, .inl (upd (upd g n1.toNatClampNeg c) n2.toNatClampNeg v))
theorem rf_phi_split {h h_q : pm_H} {n n_q p z : Int32} (X : rf_phi h n p) (hlt : p < n) (S : rf_sp h h_q n n_q p) (hz : z.toInt = p.toInt + 1) : rf_phi h_q n_q z := by
  obtain ⟨f, g, ef, eg, h1, h2, h3, h4⟩ := X
  have hl := Int32.lt_iff_toInt_lt.mp hlt
  have e0 : p.toNatClampNeg = p.toInt.toNat := rfl
  have e1 : n.toInt.toNat - p.toInt.toNat = (n.toInt.toNat - z.toInt.toNat) + 1 := by omega
  have e2 : z.toInt.toNat = p.toInt.toNat + 1 := by omega
  rw [e1, rf_sg_head, ← e2] at h4
  have h5 := h3 p.toInt.toNat (Nat.le_refl _) (by omega)
  rcases S f g ef eg with ⟨s1, s2, s3⟩ | ⟨c, c1, n1, n2, u, v, su, sv, s1, s2, s3, s4, s5, s6, s7, s8⟩
  · refine ⟨f, g, s1, s2, by omega, by omega, fun q q1 q2 => h3 q (by omega) (by omega), ?_⟩
    rw [s3]
    omega
  · rw [e0] at su sv
    have k1 : n1.toNatClampNeg = n.toInt.toNat := by show n1.toInt.toNat = _; omega
    have k2 : n2.toNatClampNeg = n.toInt.toNat + 1 := by show n2.toInt.toNat = _; omega
    rw [k1, k2] at s7 s8
    refine ⟨_, _, s7, s8, by omega, by omega, ?_, ?_⟩
    · intro q q1 q2
      unfold upd
      by_cases a1 : q = n.toInt.toNat + 1
      · rw [if_pos a1, if_pos a1]; omega
      · rw [if_neg a1, if_neg a1]
        by_cases a2 : q = n.toInt.toNat
        · rw [if_pos a2, if_pos a2]; omega
        · rw [if_neg a2, if_neg a2]; exact h3 q (by omega) (by omega)
    · have e3 : n_q.toInt.toNat - z.toInt.toNat = (n.toInt.toNat - z.toInt.toNat) + 1 + 1 := by omega
      have e4 : z.toInt.toNat + (n.toInt.toNat - z.toInt.toNat) = n.toInt.toNat := by omega
      rw [e3]
      show _ + (rf_sg _ _ _ (n.toInt.toNat - z.toInt.toNat) + _ + _) ≤ 23
      rw [rf_sg_congr (f := f) (g := g) (n.toInt.toNat - z.toInt.toNat) (fun i hi => by
        unfold upd
        rw [if_neg (by omega), if_neg (by omega), if_neg (by omega), if_neg (by omega)]
        exact ⟨rfl, rfl⟩)]
      have e5 : z.toInt.toNat + (n.toInt.toNat - z.toInt.toNat + 1) = n.toInt.toNat + 1 := by omega
      rw [e4, e5]
      have a1 : upd (upd g n.toInt.toNat c) (n.toInt.toNat + 1) v n.toInt.toNat = c := by unfold upd; rw [if_neg (by omega), if_pos rfl]
      have a2 : upd (upd f n.toInt.toNat u) (n.toInt.toNat + 1) c1 n.toInt.toNat = u := by unfold upd; rw [if_neg (by omega), if_pos rfl]
      have a3 : upd (upd g n.toInt.toNat c) (n.toInt.toNat + 1) v (n.toInt.toNat + 1) = v := by unfold upd; rw [if_pos rfl]
      have a4 : upd (upd f n.toInt.toNat u) (n.toInt.toNat + 1) c1 (n.toInt.toNat + 1) = c1 := by unfold upd; rw [if_pos rfl]
      rw [a1, a2, a3, a4]
      rw [su, sv] at h4
      omega
theorem rf_phi_0 {h : pm_H} {n p j x y : Int32} {f g : Nat → Int32} {a : Int} (ef : h.2.2 58 = .inl (0, 24, .inl (upd f j.toNatClampNeg x))) (eg : h.2.2 59 = .inl (0, 24, .inl (upd g j.toNatClampNeg y))) (hj : j.toInt = 0) (hx : x.toInt = 0) (By : sf_B a 11 y) (ha : 0 ≤ a) (hn : n.toInt = 1) (hp : p.toInt = 0) : rf_phi h n p := by
  have e0 : j.toNatClampNeg = 0 := by show j.toInt.toNat = 0; omega
  rw [e0] at ef eg
  have y1 := By.1; have y2 := By.2
  refine ⟨_, _, ef, eg, by omega, by omega, fun q q1 q2 => ?_, ?_⟩
  · have : q = 0 := by omega
    unfold upd
    rw [if_pos this, if_pos this]; omega
  · rw [hn, hp]
    show (0 : Int) + (0 + (2 * ((upd g 0 y 0).toInt - (upd f 0 x 0).toInt) + 1)) ≤ 23
    have a1 : upd g 0 y 0 = y := rfl
    have a2 : upd f 0 x 0 = x := rfl
    rw [a1, a2]; omega
theorem rf_nz {l n b y : Int64} {f : Nat → Int64} {j1 j2 : Int32} {a c : Int} (hlt : l.toInt < n.toInt) (B : lf_B a c l) (ha : 0 ≤ a) (X : b = 0 → n.toInt = 0) (e1 : f j1.toNatClampNeg = b) (e2 : f j2.toNatClampNeg = y) (hj : j1.toInt = j2.toInt) : ¬ y = 0 := by
  intro hy
  have : j1 = j2 := Int32.toInt_inj.mp hj
  subst this
  rw [e1] at e2
  have := X (by rw [e2]; exact hy)
  have := B.1
  omega
end
section
/-! what lies where in the reference's told arrays -/
theorem sf_nat {a b : Int} {z : Int32} (B : sf_B a b z) (ha : 0 ≤ a) : (z.toNatClampNeg : Int) = z.toInt := by
  have h1 := B.1
  have e : z.toNatClampNeg = z.toInt.toNat := rfl
  rw [e]; omega
theorem sf_addL {a b c e p q : Int} {x y z : Int32} (h : z.toInt = x.toInt + y.toInt) (Bz : sf_B a b z) (By : sf_B c e y) (Bx : sf_B p q x) : sf_B p (b - c) x := by
  have h1 := Bz.2; have h2 := By.1; have h3 := Bx.1
  unfold sf_B; omega
theorem sf_addR {a b c e p q : Int} {x y z : Int32} (h : z.toInt = x.toInt + y.toInt) (Bz : sf_B a b z) (By : sf_B c e y) (Bx : sf_B p q x) : sf_B c (b - p) y := by
  have h1 := Bz.2; have h2 := By.1; have h3 := Bx.1
  unfold sf_B; omega
theorem sf_same {a b : Int} {x y z u : Int32} (h1 : z.toInt = x.toInt + y.toInt) (h2 : u.toInt = x.toInt + y.toInt) (B : sf_B a b z) : sf_B a b u := by
  have := B.1; have := B.2
  unfold sf_B; omega
theorem rf_res {z l : Int32} {a b r : Int} (P : Nat) (he : z.toInt = (P : Int) * l.toInt + r) (Bl : sf_B a b l) (ha : 0 ≤ a) (h0 : 0 ≤ r) (h1 : r < P) : z.toNatClampNeg % P = r.toNat := by
  have e0 : z.toNatClampNeg = z.toInt.toNat := rfl
  have hl : 0 ≤ l.toInt := Int.le_trans ha Bl.1
  obtain ⟨n, hn⟩ := Int.eq_ofNat_of_zero_le hl
  have e1 : (P : Int) * (n : Int) = ((P * n : Nat) : Int) := by rw [Int.natCast_mul]
  have e2 : (((P * n : Nat) : Int) + r).toNat = P * n + r.toNat := by omega
  rw [e0, he, hn, e1, e2, Nat.mul_add_mod, Nat.mod_eq_of_lt (by omega)]
section RFP
variable {f : Nat → Int32} {z l k : Int32} {a b c e : Int}
theorem rf_bnd {u v u' v' : Int} {x : Int32} (B : sf_B u v x) (h1 : u = u') (h2 : v = v') : sf_B u' v' x := by subst h1; subst h2; exact B
theorem rf_p47a (hb : ∀ j, sf_B (rf_l0 (j % 100)) (rf_l1 (j % 100)) (f j)) (he : z.toInt = 100 * l.toInt + 0) (Bl : sf_B a b l) (ha : 0 ≤ a) : sf_B 0 10 (f z.toNatClampNeg) := by
  have h1 := Bl.1
  have e0 : z.toNatClampNeg = z.toInt.toNat := rfl
  have hr : z.toNatClampNeg % 100 = 0 := by rw [e0]; omega
  have := hb z.toNatClampNeg
  rw [hr] at this
  exact this
theorem rf_p47b (hb : ∀ j, sf_B (rf_l0 (j % 100)) (rf_l1 (j % 100)) (f j)) (he : z.toInt = 100 * l.toInt + 1) (Bl : sf_B a b l) (ha : 0 ≤ a) : sf_B 0 16 (f z.toNatClampNeg) := by
  have h1 := Bl.1
  have e0 : z.toNatClampNeg = z.toInt.toNat := rfl
  have hr : z.toNatClampNeg % 100 = 1 := by rw [e0]; omega
  have := hb z.toNatClampNeg
  rw [hr] at this
  exact this
theorem rf_l1r {r : Nat} (h1 : 2 ≤ r) (h2 : r < 42) (h3 : ¬ (r - 2) % 4 = 3) : rf_l1 r = 5 := by
  unfold rf_l1
  rw [if_neg (by omega), if_neg (by omega), if_pos h2, if_neg h3]
theorem rf_l1t {r : Nat} (h1 : 2 ≤ r) (h2 : r < 42) (h3 : (r - 2) % 4 = 3) : rf_l1 r = 4 := by
  unfold rf_l1
  rw [if_neg (by omega), if_neg (by omega), if_pos h2, if_pos h3]
theorem rf_l1s {r : Nat} (h1 : 42 ≤ r) (h2 : r < 90) (h3 : (r - 42) % 3 = 0) : rf_l1 r = 9 := by
  unfold rf_l1
  rw [if_neg (by omega), if_neg (by omega), if_neg (by omega), if_pos h2, if_pos h3]
theorem rf_l1k {r : Nat} (h1 : 42 ≤ r) (h2 : r < 90) (h3 : (r - 42) % 3 = 1) : rf_l1 r = 5 := by
  unfold rf_l1
  rw [if_neg (by omega), if_neg (by omega), if_neg (by omega), if_pos h2, if_neg (by omega), if_pos h3]
theorem rf_l1v {r : Nat} (h1 : 42 ≤ r) (h2 : r < 90) (h3 : (r - 42) % 3 = 2) : rf_l1 r = 49 := by
  unfold rf_l1
  rw [if_neg (by omega), if_neg (by omega), if_neg (by omega), if_pos h2, if_neg (by omega), if_neg (by omega)]
theorem rf_l1n {r : Nat} (h1 : 90 ≤ r) : rf_l1 r = 2147483647 := by
  unfold rf_l1
  rw [if_neg (by omega), if_neg (by omega), if_neg (by omega), if_neg (by omega)]
theorem rf_p47r (hb : ∀ j, sf_B (rf_l0 (j % 100)) (rf_l1 (j % 100)) (f j)) {t : Int} (he : z.toInt = 100 * l.toInt + 4 * k.toInt + t) (Bl : sf_B a b l) (Bk : sf_B c e k) (ha : 0 ≤ a) (hc : 0 ≤ c ∧ e ≤ 9) (ht : 2 ≤ t ∧ t ≤ 4) : sf_B 0 5 (f z.toNatClampNeg) := by
  have h1 := Bl.1; have h2 := Bk.1; have h3 := Bk.2
  have hr := rf_res (z := z) (l := l) (r := 4 * k.toInt + t) 100 (by omega) Bl ha (by omega) (by omega)
  exact rf_bnd (hr ▸ hb z.toNatClampNeg) (if_pos (by omega)) (rf_l1r (by omega) (by omega) (by omega))
theorem rf_p47t (hb : ∀ j, sf_B (rf_l0 (j % 100)) (rf_l1 (j % 100)) (f j)) {t : Int} (he : z.toInt = 100 * l.toInt + 4 * k.toInt + t) (Bl : sf_B a b l) (Bk : sf_B c e k) (ha : 0 ≤ a) (hc : 0 ≤ c ∧ e ≤ 9) (ht : t = 5) : sf_B 0 4 (f z.toNatClampNeg) := by
  have h1 := Bl.1; have h2 := Bk.1; have h3 := Bk.2
  have hr := rf_res (z := z) (l := l) (r := 4 * k.toInt + t) 100 (by omega) Bl ha (by omega) (by omega)
  exact rf_bnd (hr ▸ hb z.toNatClampNeg) (if_pos (by omega)) (rf_l1t (by omega) (by omega) (by omega))
theorem rf_p47s (hb : ∀ j, sf_B (rf_l0 (j % 100)) (rf_l1 (j % 100)) (f j)) {t : Int} (he : z.toInt = 100 * l.toInt + 3 * k.toInt + t) (Bl : sf_B a b l) (Bk : sf_B c e k) (ha : 0 ≤ a) (hc : 0 ≤ c ∧ e ≤ 15) (ht : t = 42) : sf_B 0 9 (f z.toNatClampNeg) := by
  have h1 := Bl.1; have h2 := Bk.1; have h3 := Bk.2
  have hr := rf_res (z := z) (l := l) (r := 3 * k.toInt + t) 100 (by omega) Bl ha (by omega) (by omega)
  exact rf_bnd (hr ▸ hb z.toNatClampNeg) (if_pos (by omega)) (rf_l1s (by omega) (by omega) (by omega))
theorem rf_p47k (hb : ∀ j, sf_B (rf_l0 (j % 100)) (rf_l1 (j % 100)) (f j)) {t : Int} (he : z.toInt = 100 * l.toInt + 3 * k.toInt + t) (Bl : sf_B a b l) (Bk : sf_B c e k) (ha : 0 ≤ a) (hc : 0 ≤ c ∧ e ≤ 15) (ht : t = 43) : sf_B 0 5 (f z.toNatClampNeg) := by
  have h1 := Bl.1; have h2 := Bk.1; have h3 := Bk.2
  have hr := rf_res (z := z) (l := l) (r := 3 * k.toInt + t) 100 (by omega) Bl ha (by omega) (by omega)
  exact rf_bnd (hr ▸ hb z.toNatClampNeg) (if_pos (by omega)) (rf_l1k (by omega) (by omega) (by omega))
theorem rf_p47v (hb : ∀ j, sf_B (rf_l0 (j % 100)) (rf_l1 (j % 100)) (f j)) {t : Int} (he : z.toInt = 100 * l.toInt + 3 * k.toInt + t) (Bl : sf_B a b l) (Bk : sf_B c e k) (ha : 0 ≤ a) (hc : 0 ≤ c ∧ e ≤ 15) (ht : t = 44) : sf_B 0 49 (f z.toNatClampNeg) := by
  have h1 := Bl.1; have h2 := Bk.1; have h3 := Bk.2
  have hr := rf_res (z := z) (l := l) (r := 3 * k.toInt + t) 100 (by omega) Bl ha (by omega) (by omega)
  exact rf_bnd (hr ▸ hb z.toNatClampNeg) (if_pos (by omega)) (rf_l1v (by omega) (by omega) (by omega))
theorem rf_p48 (hb : ∀ j, sf_B 0 (if j % 13 = 0 then 12 else 9) (f j)) (j : Nat) : sf_B 0 12 (f j) := sf_weak (hb j) (Int.le_refl 0) (by split <;> decide)
theorem rf_p48a (hb : ∀ j, sf_B 0 (if j % 13 = 0 then 12 else 9) (f j)) (_ : z.toInt = 13 * l.toInt + 0) (_ : sf_B a b l) (_ : 0 ≤ a) : sf_B 0 12 (f z.toNatClampNeg) := rf_p48 hb _
theorem rf_p48s (hb : ∀ j, sf_B 0 (if j % 13 = 0 then 12 else 9) (f j)) {t : Int} (he : z.toInt = 13 * l.toInt + 1 * k.toInt + t) (Bl : sf_B a b l) (Bk : sf_B c e k) (ha : 0 ≤ a) (hc : 0 ≤ c ∧ e ≤ 11) (ht : t = 1) : sf_B 0 9 (f z.toNatClampNeg) := by
  have h1 := Bl.1; have h2 := Bk.1; have h3 := Bk.2
  have hr := rf_res (z := z) (l := l) (r := 1 * k.toInt + t) 13 (by omega) Bl ha (by omega) (by omega)
  exact rf_bnd (hr ▸ hb z.toNatClampNeg) rfl (if_neg (by omega))
theorem rf_p49a (hb : ∀ j, sf_B (rf_m0 (j % 152)) (rf_m1 (j % 152)) (f j)) (he : z.toInt = 152 * l.toInt + 0) (Bl : sf_B a b l) (ha : 0 ≤ a) : sf_B 0 6 (f z.toNatClampNeg) := by
  have h1 := Bl.1
  have e0 : z.toNatClampNeg = z.toInt.toNat := rfl
  have hr : z.toNatClampNeg % 152 = 0 := by rw [e0]; omega
  have := hb z.toNatClampNeg
  rw [hr] at this
  exact this
theorem rf_p49b (hb : ∀ j, sf_B (rf_m0 (j % 152)) (rf_m1 (j % 152)) (f j)) (he : z.toInt = 152 * l.toInt + 1) (Bl : sf_B a b l) (ha : 0 ≤ a) : sf_B 0 50 (f z.toNatClampNeg) := by
  have h1 := Bl.1
  have e0 : z.toNatClampNeg = z.toInt.toNat := rfl
  have hr : z.toNatClampNeg % 152 = 1 := by rw [e0]; omega
  have := hb z.toNatClampNeg
  rw [hr] at this
  exact this
theorem rf_m1c {r : Nat} (h1 : 2 ≤ r) : rf_m1 r = if (r - 2) % 3 = 0 then 2 else if (r - 2) % 3 = 1 then 5 else 9 := by
  unfold rf_m1
  rw [if_neg (by omega), if_neg (by omega)]
theorem rf_m0c {r : Nat} (h1 : 2 ≤ r) : rf_m0 r = if (r - 2) % 3 = 2 then -1 else 0 := by
  unfold rf_m0
  rw [if_neg (by omega)]
theorem rf_p49s (hb : ∀ j, sf_B (rf_m0 (j % 152)) (rf_m1 (j % 152)) (f j)) {t : Int} (he : z.toInt = 152 * l.toInt + 3 * k.toInt + t) (Bl : sf_B a b l) (Bk : sf_B c e k) (ha : 0 ≤ a) (hc : 0 ≤ c ∧ e ≤ 49) (ht : t = 2) : sf_B 0 2 (f z.toNatClampNeg) := by
  have h1 := Bl.1; have h2 := Bk.1; have h3 := Bk.2
  have hr := rf_res (z := z) (l := l) (r := 3 * k.toInt + t) 152 (by omega) Bl ha (by omega) (by omega)
  exact rf_bnd (hr ▸ hb z.toNatClampNeg) (by rw [rf_m0c (by omega), if_neg (by omega)]) (by rw [rf_m1c (by omega), if_pos (by omega)])
theorem rf_p49w (hb : ∀ j, sf_B (rf_m0 (j % 152)) (rf_m1 (j % 152)) (f j)) {t : Int} (he : z.toInt = 152 * l.toInt + 3 * k.toInt + t) (Bl : sf_B a b l) (Bk : sf_B c e k) (ha : 0 ≤ a) (hc : 0 ≤ c ∧ e ≤ 49) (ht : t = 3) : sf_B 0 5 (f z.toNatClampNeg) := by
  have h1 := Bl.1; have h2 := Bk.1; have h3 := Bk.2
  have hr := rf_res (z := z) (l := l) (r := 3 * k.toInt + t) 152 (by omega) Bl ha (by omega) (by omega)
  exact rf_bnd (hr ▸ hb z.toNatClampNeg) (by rw [rf_m0c (by omega), if_neg (by omega)]) (by rw [rf_m1c (by omega), if_neg (by omega), if_pos (by omega)])
theorem rf_p49o (hb : ∀ j, sf_B (rf_m0 (j % 152)) (rf_m1 (j % 152)) (f j)) {t : Int} (he : z.toInt = 152 * l.toInt + 3 * k.toInt + t) (Bl : sf_B a b l) (Bk : sf_B c e k) (ha : 0 ≤ a) (hc : 0 ≤ c ∧ e ≤ 49) (ht : t = 4) : sf_B (-1) 9 (f z.toNatClampNeg) := by
  have h1 := Bl.1; have h2 := Bk.1; have h3 := Bk.2
  have hr := rf_res (z := z) (l := l) (r := 3 * k.toInt + t) 152 (by omega) Bl ha (by omega) (by omega)
  exact rf_bnd (hr ▸ hb z.toNatClampNeg) (by rw [rf_m0c (by omega), if_pos (by omega)]) (by rw [rf_m1c (by omega), if_neg (by omega), if_neg (by omega)])
theorem rf_p50a (hb : ∀ j, sf_B (rf_h0 (j % 25)) (rf_h1 (j % 25)) (f j)) (he : z.toInt = 25 * l.toInt + 0) (Bl : sf_B a b l) (ha : 0 ≤ a) : sf_B 0 8 (f z.toNatClampNeg) := by
  have h1 := Bl.1
  have e0 : z.toNatClampNeg = z.toInt.toNat := rfl
  have hr : z.toNatClampNeg % 25 = 0 := by rw [e0]; omega
  have := hb z.toNatClampNeg
  rw [hr] at this
  exact this
theorem rf_p50s (hb : ∀ j, sf_B (rf_h0 (j % 25)) (rf_h1 (j % 25)) (f j)) {t : Int} (he : z.toInt = 25 * l.toInt + 3 * k.toInt + t) (Bl : sf_B a b l) (Bk : sf_B c e k) (ha : 0 ≤ a) (hc : 0 ≤ c ∧ e ≤ 7) (ht : t = 1) : sf_B 0 5 (f z.toNatClampNeg) := by
  have h1 := Bl.1; have h2 := Bk.1; have h3 := Bk.2
  have hr := rf_res (z := z) (l := l) (r := 3 * k.toInt + t) 25 (by omega) Bl ha (by omega) (by omega)
  exact rf_bnd (hr ▸ hb z.toNatClampNeg) (by unfold rf_h0; rw [if_neg (by omega), if_neg (by omega)]) (by unfold rf_h1; rw [if_neg (by omega), if_pos (by omega)])
theorem rf_p50f (hb : ∀ j, sf_B (rf_h0 (j % 25)) (rf_h1 (j % 25)) (f j)) {t : Int} (he : z.toInt = 25 * l.toInt + 3 * k.toInt + t) (Bl : sf_B a b l) (Bk : sf_B c e k) (ha : 0 ≤ a) (hc : 0 ≤ c ∧ e ≤ 7) (ht : t = 2) : sf_B 0 9 (f z.toNatClampNeg) := by
  have h1 := Bl.1; have h2 := Bk.1; have h3 := Bk.2
  have hr := rf_res (z := z) (l := l) (r := 3 * k.toInt + t) 25 (by omega) Bl ha (by omega) (by omega)
  exact rf_bnd (hr ▸ hb z.toNatClampNeg) (by unfold rf_h0; rw [if_neg (by omega), if_neg (by omega)]) (by unfold rf_h1; rw [if_neg (by omega), if_neg (by omega)])
theorem rf_p50o (hb : ∀ j, sf_B (rf_h0 (j % 25)) (rf_h1 (j % 25)) (f j)) {t : Int} (he : z.toInt = 25 * l.toInt + 3 * k.toInt + t) (Bl : sf_B a b l) (Bk : sf_B c e k) (ha : 0 ≤ a) (hc : 0 ≤ c ∧ e ≤ 7) (ht : t = 3) : sf_B (-1) 9 (f z.toNatClampNeg) := by
  have h1 := Bl.1; have h2 := Bk.1; have h3 := Bk.2
  have hr := rf_res (z := z) (l := l) (r := 3 * k.toInt + t) 25 (by omega) Bl ha (by omega) (by omega)
  exact rf_bnd (hr ▸ hb z.toNatClampNeg) (by unfold rf_h0; rw [if_neg (by omega), if_pos (by omega)]) (by unfold rf_h1; rw [if_neg (by omega), if_neg (by omega)])
theorem rf_p66 (hb : ∀ j, sf_B 0 (if j = 0 then 4 else 9) (f j)) (j : Nat) : sf_B 0 9 (f j) := sf_weak (hb j) (Int.le_refl 0) (by split <;> decide)
theorem rf_u66 (hb : ∀ j, sf_B 0 (if j = 0 then 4 else 9) (f j)) {v : Int32} (hv : sf_B 0 4 v) : ∀ j, sf_B 0 (if j = 0 then 4 else 9) (upd f (Int32.toNatClampNeg 0) v j) := by
  intro j
  show sf_B 0 _ (if j = 0 then v else f j)
  split
  · exact hv
  · rename_i h; have := hb j; rw [if_neg h] at this; exact this
theorem rf_v66 (hb : ∀ j, sf_B 0 (if j = 0 then 4 else 9) (f j)) {v : Int32} (hv : sf_B 0 9 v) (Bj : sf_B a b z) (ha : 1 ≤ a) : ∀ j, sf_B 0 (if j = 0 then 4 else 9) (upd f z.toNatClampNeg v j) := by
  intro j
  have h1 := Bj.1
  have e0 : z.toNatClampNeg = z.toInt.toNat := rfl
  unfold upd
  by_cases h : j = z.toNatClampNeg
  · rw [if_pos h, if_neg (by omega)]; exact hv
  · rw [if_neg h]; exact hb j
end RFP
theorem sf_leT {a b c e : Int} {x y : Int32} (h : x.toInt ≤ y.toInt) (Bx : sf_B a b x) (By : sf_B c e y) : sf_B a e x := by
  have h1 := Bx.1; have h2 := By.2
  unfold sf_B; omega
/-- a ROW that is there -/
def rf_V (h : pm_H) (r : Int32) : Prop := ∃ f : Nat → Int32, h.2.2 46 = .inl (0, 16, .inl f) ∧ 0 ≤ r.toInt ∧ r.toInt < (f 1).toInt
theorem rf_V.mk {h : pm_H} {f : Nat → Int32} {r z y : Int32} {a b : Int} (e : h.2.2 46 = .inl (0, 16, .inl f)) (ez : f (Int32.toNatClampNeg 1) = z) (ey : y.toInt = z.toInt - (1 : Int32).toInt) (p : r ≤ y) (B : sf_B a b r) (ha : 0 ≤ a) : rf_V h r := by
  refine ⟨f, e, Int.le_trans ha B.1, ?_⟩
  have h1 := Int32.le_iff_toInt_le.mp p
  have h2 : (1 : Int32).toInt = 1 := rfl
  have h3 : f 1 = z := ez
  rw [h3]
  omega
theorem rf_V.F {l : List Nat} {h h_q : pm_H} {r : Int32} (V : rf_V h r) (F : rf_G l h h_q) (hl : 46 ∉ l) : rf_V h_q r := by
  obtain ⟨f, e, h1, h2⟩ := V
  exact ⟨f, by rw [F.2.2 46 hl]; exact e, h1, h2⟩
theorem rf_V.back {l : List Nat} {h h_q : pm_H} {r : Int32} (V : rf_V h_q r) (F : rf_G l h h_q) (hl : 46 ∉ l) : rf_V h r := by
  obtain ⟨f, e, h1, h2⟩ := V
  exact ⟨f, by rw [← F.2.2 46 hl]; exact e, h1, h2⟩
theorem rf_p48v {m : Nat → Int32} {w : Int64} {h : pm_H} {g : Nat → Int32} {z l : Int32} (T : rf_T m w h) (e : h.2.2 48 = .inl (0, 156, .inl g)) (V : rf_V h l) (he : z.toInt = 13 * l.toInt + 0) : sf_B 1 12 (g z.toNatClampNeg) := by
  obtain ⟨f, e1, h1, h2⟩ := V
  obtain ⟨f', ef, bf⟩ := T.2.2.2.1 46 (by decide) (by decide)
  rw [e1] at ef
  cases ef
  have hb := bf 1
  have hb2 : (f 1).toInt ≤ 3 := hb.2
  obtain ⟨g_q, eg, bg⟩ := T.2.2.2.1 48 (by decide) (by decide)
  rw [e] at eg
  cases eg
  have hx := T.2.2.2.2 f g e1 e 0 l.toInt.toNat (by decide) (by omega) (by rw [Int.toNat_of_nonneg h1]; exact h2)
  have e0 : z.toNatClampNeg = z.toInt.toNat := rfl
  have e2 : 39 * 0 + 13 * l.toInt.toNat = z.toNatClampNeg := by rw [e0]; omega
  rw [e2] at hx
  exact ⟨hx, (rf_p48 bg _).2⟩
theorem lf_any (x : Int64) : lf_B (-9223372036854775808) 9223372036854775807 x := by
  have a := x.toInt_lt; have b := x.le_toInt
  unfold lf_B; omega
theorem lf_geB {a b c e : Int} {x y : Int64} (h : y.toInt ≤ x.toInt) (By : lf_B a b y) (Bx : lf_B c e x) : lf_B a e x := ⟨Int.le_trans By.1 h, Bx.2⟩
theorem sf_eqT {a b : Int} {x y : Int32} (h : x.toInt = y.toInt) (B : sf_B a b y) : sf_B a b x := by
  unfold sf_B; rw [h]; exact B
theorem rf_layX {A : List Nat} {h hk : pm_H} {f g : Nat → Int32} {z z0 x l : Int32} (eo : hk.2.2 48 = .inl (0, 156, .inl f)) (F : rf_G A h hk) (eg : h.2.2 48 = .inl (0, 156, .inl g)) (ez : f z0.toNatClampNeg = z) (ek : x.toInt = z.toInt) (ej : z0.toInt = 13 * l.toInt + 0) (hA : 48 ∉ A) : x.toInt = (g (13 * l.toInt).toNat).toInt := by
  rw [F.2.2 48 hA, eg] at eo
  cases eo
  have e0 : z0.toNatClampNeg = z0.toInt.toNat := rfl
  rw [e0, ej, Int.add_zero] at ez
  rw [ez, ek]
theorem rf_layEq {A : List Nat} {m : Nat → Int32} {w : Int64} {h h1 h2 : pm_H} {x y : Int32} {k : Nat} (T : rf_T m w h) (F1 : rf_G A h h1) (F2 : rf_G A h h2) (hA : 48 ∉ A) (X1 : ∀ g : Nat → Int32, h1.2.2 48 = .inl (0, 156, .inl g) → x.toInt = (g k).toInt) (X2 : ∀ g : Nat → Int32, h2.2.2 48 = .inl (0, 156, .inl g) → y.toInt = (g k).toInt) : y.toInt = x.toInt := by
  obtain ⟨g, e, -⟩ := T.2.2.2.1 48 (by decide) (by decide)
  rw [X1 g (by rw [F1.2.2 48 hA]; exact e), X2 g (by rw [F2.2.2 48 hA]; exact e)]
end
section
/-! what the reference has read of a text -/
def rf_tl (s : Nat) : Nat := match s with | 0 => 100 | 1 => 13 | 2 => 152 | _ => 25
def rf_t0 (s j : Nat) : Int := match s with | 0 => rf_l0 j | 1 => 0 | 2 => rf_m0 j | _ => rf_h0 j
def rf_t1 (s j : Nat) : Int := match s with | 0 => rf_l1 j | 1 => (if j = 0 then 12 else 9) | 2 => rf_m1 j | _ => rf_h1 j
def rf_ct (s : Nat) (f : Nat → Int32) : Prop := match s with | 0 => sf_B 0 10 (f 0) ∧ sf_B 0 16 (f 1) | 1 => sf_B 0 12 (f 0) | 2 => sf_B 0 50 (f 1) | _ => sf_B 0 8 (f 0)
def rf_bd (s : Nat) (f : Nat → Int32) : Prop := ∀ j, j < rf_tl s → sf_B (rf_t0 s j) (rf_t1 s j) (f j)
def rf_I (s : Nat) (n : Int32) (h : pm_H) : Prop := ∃ f : Nat → Int32, h.2.2 51 = .inl (0, 152, .inl f) ∧ rf_ct s f ∧ (n.toInt = 0 → rf_bd s f)
theorem sf_pos {a b : Int} {x : Int32} (B : sf_B a b x) (h : 1 ≤ a) {C : Prop} (z : x.toInt = 0) : C := by
  have := B.1
  exact absurd z (by omega)
theorem sf_upd_ne {f : Nat → Int32} {k x : Int32} {a b : Int} {j : Nat} (B : sf_B a b k) (ha : 0 ≤ a) (h : (j : Int) < a ∨ b < j) : upd f k.toNatClampNeg x j = f j := by
  have h1 := B.1; have h2 := B.2
  have e0 : k.toNatClampNeg = k.toInt.toNat := rfl
  unfold upd
  rw [if_neg (by rw [e0]; omega)]
theorem rf_bd.set {s : Nat} {f : Nat → Int32} (h : rf_bd s f) {k x : Int32} {a b : Int} (B : sf_B a b x) (ha : rf_t0 s k.toNatClampNeg ≤ a) (hb : b ≤ rf_t1 s k.toNatClampNeg) : rf_bd s (upd f k.toNatClampNeg x) := by
  intro j hj
  unfold upd
  by_cases e : j = k.toNatClampNeg
  · rw [if_pos e, e]; exact sf_weak B ha hb
  · rw [if_neg e]; exact h j hj
/-- the places of a RULE, a READING, a DEED, a LAW, a SIGN: where, and what may lie there -/
theorem rf_w0r {i k : Int32} {t : Int} (e : i.toInt = 2 + 4 * k.toInt + t) (B : sf_B 0 9 k) (h0 : 0 ≤ t) (h1 : t ≤ 2) : rf_t0 0 i.toNatClampNeg ≤ 0 ∧ 5 ≤ rf_t1 0 i.toNatClampNeg := by
  have k1 := B.1; have k2 := B.2
  have e0 : i.toNatClampNeg = i.toInt.toNat := rfl
  refine ⟨Int.le_of_eq (if_pos (by rw [e0]; omega)), Int.le_of_eq (rf_l1r (by rw [e0]; omega) (by rw [e0]; omega) (by rw [e0]; omega)).symm⟩
theorem rf_w0t {i k : Int32} (e : i.toInt = 2 + 4 * k.toInt + 3) (B : sf_B 0 9 k) : rf_t0 0 i.toNatClampNeg ≤ 0 ∧ 4 ≤ rf_t1 0 i.toNatClampNeg := by
  have k1 := B.1; have k2 := B.2
  have e0 : i.toNatClampNeg = i.toInt.toNat := rfl
  refine ⟨Int.le_of_eq (if_pos (by rw [e0]; omega)), Int.le_of_eq (rf_l1t (by rw [e0]; omega) (by rw [e0]; omega) (by rw [e0]; omega)).symm⟩
theorem rf_w0s {i k : Int32} (e : i.toInt = 42 + 3 * k.toInt + 0) (B : sf_B 0 15 k) : rf_t0 0 i.toNatClampNeg ≤ 0 ∧ 9 ≤ rf_t1 0 i.toNatClampNeg := by
  have k1 := B.1; have k2 := B.2
  have e0 : i.toNatClampNeg = i.toInt.toNat := rfl
  refine ⟨Int.le_of_eq (if_pos (by rw [e0]; omega)), Int.le_of_eq (rf_l1s (by rw [e0]; omega) (by rw [e0]; omega) (by rw [e0]; omega)).symm⟩
theorem rf_w0k {i k : Int32} (e : i.toInt = 42 + 3 * k.toInt + 1) (B : sf_B 0 15 k) : rf_t0 0 i.toNatClampNeg ≤ 0 ∧ 5 ≤ rf_t1 0 i.toNatClampNeg := by
  have k1 := B.1; have k2 := B.2
  have e0 : i.toNatClampNeg = i.toInt.toNat := rfl
  refine ⟨Int.le_of_eq (if_pos (by rw [e0]; omega)), Int.le_of_eq (rf_l1k (by rw [e0]; omega) (by rw [e0]; omega) (by rw [e0]; omega)).symm⟩
theorem rf_w0v {i k : Int32} (e : i.toInt = 42 + 3 * k.toInt + 2) (B : sf_B 0 15 k) : rf_t0 0 i.toNatClampNeg ≤ 0 ∧ 49 ≤ rf_t1 0 i.toNatClampNeg := by
  have k1 := B.1; have k2 := B.2
  have e0 : i.toNatClampNeg = i.toInt.toNat := rfl
  refine ⟨Int.le_of_eq (if_pos (by rw [e0]; omega)), Int.le_of_eq (rf_l1v (by rw [e0]; omega) (by rw [e0]; omega) (by rw [e0]; omega)).symm⟩
theorem rf_w1 {i k : Int32} (e : i.toInt = 1 + 1 * k.toInt + 0) (B : sf_B 0 11 k) : rf_t0 1 i.toNatClampNeg ≤ 0 ∧ 9 ≤ rf_t1 1 i.toNatClampNeg := by
  have k1 := B.1; have k2 := B.2
  have e0 : i.toNatClampNeg = i.toInt.toNat := rfl
  refine ⟨Int.le_refl 0, Int.le_of_eq ?_⟩
  show 9 = if i.toNatClampNeg = 0 then 12 else 9
  rw [if_neg (by rw [e0]; omega)]
theorem rf_w2s {i k : Int32} (e : i.toInt = 2 + 3 * k.toInt + 0) (B : sf_B 0 49 k) : rf_t0 2 i.toNatClampNeg ≤ 0 ∧ 2 ≤ rf_t1 2 i.toNatClampNeg := by
  have k1 := B.1; have k2 := B.2
  have e0 : i.toNatClampNeg = i.toInt.toNat := rfl
  refine ⟨?_, ?_⟩
  · show rf_m0 i.toNatClampNeg ≤ 0
    rw [rf_m0c (by rw [e0]; omega)]; split <;> omega
  · show 2 ≤ rf_m1 i.toNatClampNeg
    rw [rf_m1c (by rw [e0]; omega)]; split
    · omega
    · split <;> omega
theorem rf_w2w {i k : Int32} (e : i.toInt = 2 + 3 * k.toInt + 1) (B : sf_B 0 49 k) : rf_t0 2 i.toNatClampNeg ≤ 0 ∧ 5 ≤ rf_t1 2 i.toNatClampNeg := by
  have k1 := B.1; have k2 := B.2
  have e0 : i.toNatClampNeg = i.toInt.toNat := rfl
  refine ⟨?_, ?_⟩
  · show rf_m0 i.toNatClampNeg ≤ 0
    rw [rf_m0c (by rw [e0]; omega)]; split <;> omega
  · show 5 ≤ rf_m1 i.toNatClampNeg
    rw [rf_m1c (by rw [e0]; omega), if_neg (by rw [e0]; omega)]; split <;> omega
theorem rf_w2o {i k : Int32} (e : i.toInt = 2 + 3 * k.toInt + 2) (B : sf_B 0 49 k) : rf_t0 2 i.toNatClampNeg ≤ -1 ∧ 9 ≤ rf_t1 2 i.toNatClampNeg := by
  have k1 := B.1; have k2 := B.2
  have e0 : i.toNatClampNeg = i.toInt.toNat := rfl
  refine ⟨?_, ?_⟩
  · show rf_m0 i.toNatClampNeg ≤ -1
    rw [rf_m0c (by rw [e0]; omega), if_pos (by rw [e0]; omega)]; omega
  · show 9 ≤ rf_m1 i.toNatClampNeg
    rw [rf_m1c (by rw [e0]; omega), if_neg (by rw [e0]; omega), if_neg (by rw [e0]; omega)]; omega
theorem rf_w3s {i k : Int32} (e : i.toInt = 1 + 3 * k.toInt + 0) (B : sf_B 0 7 k) : rf_t0 3 i.toNatClampNeg ≤ 0 ∧ 5 ≤ rf_t1 3 i.toNatClampNeg := by
  have k1 := B.1; have k2 := B.2
  have e0 : i.toNatClampNeg = i.toInt.toNat := rfl
  refine ⟨?_, ?_⟩
  · show rf_h0 i.toNatClampNeg ≤ 0
    unfold rf_h0; rw [if_neg (by rw [e0]; omega)]; split <;> omega
  · show 5 ≤ rf_h1 i.toNatClampNeg
    unfold rf_h1; rw [if_neg (by rw [e0]; omega)]; split <;> omega
theorem rf_w3f {i k : Int32} (e : i.toInt = 1 + 3 * k.toInt + 1) (B : sf_B 0 7 k) : rf_t0 3 i.toNatClampNeg ≤ 0 ∧ 9 ≤ rf_t1 3 i.toNatClampNeg := by
  have k1 := B.1; have k2 := B.2
  have e0 : i.toNatClampNeg = i.toInt.toNat := rfl
  refine ⟨?_, ?_⟩
  · show rf_h0 i.toNatClampNeg ≤ 0
    unfold rf_h0; rw [if_neg (by rw [e0]; omega)]; split <;> omega
  · show 9 ≤ rf_h1 i.toNatClampNeg
    unfold rf_h1; rw [if_neg (by rw [e0]; omega), if_neg (by rw [e0]; omega)]; omega
theorem rf_w3o {i k : Int32} (e : i.toInt = 1 + 3 * k.toInt + 2) (B : sf_B 0 7 k) : rf_t0 3 i.toNatClampNeg ≤ -1 ∧ 9 ≤ rf_t1 3 i.toNatClampNeg := by
  have k1 := B.1; have k2 := B.2
  have e0 : i.toNatClampNeg = i.toInt.toNat := rfl
  refine ⟨?_, ?_⟩
  · show rf_h0 i.toNatClampNeg ≤ -1
    unfold rf_h0; rw [if_neg (by rw [e0]; omega), if_pos (by rw [e0]; omega)]; omega
  · show 9 ≤ rf_h1 i.toNatClampNeg
    unfold rf_h1; rw [if_neg (by rw [e0]; omega), if_neg (by rw [e0]; omega)]; omega
theorem rf_w0n {i k : Int32} (e : i.toInt = 90 + k.toInt) (B : sf_B 0 9 k) : rf_t0 0 i.toNatClampNeg ≤ -2147483648 ∧ 2147483647 ≤ rf_t1 0 i.toNatClampNeg := by
  have k1 := B.1; have k2 := B.2
  have e0 : i.toNatClampNeg = i.toInt.toNat := rfl
  refine ⟨Int.le_of_eq (if_neg (by rw [e0]; omega)), Int.le_of_eq (rf_l1n (by rw [e0]; omega)).symm⟩
theorem rf_bd.self {s : Nat} {f : Nat → Int32} (h : rf_bd s f) {k x : Int32} (e : f k.toNatClampNeg = x) : rf_bd s (upd f k.toNatClampNeg x) := by
  intro j hj
  unfold upd
  by_cases e2 : j = k.toNatClampNeg
  · rw [if_pos e2, ← e, ← e2]; exact h j hj
  · rw [if_neg e2]; exact h j hj
end
section
theorem sf_kn3 : sf_B (-3) (-3) (-3) := ⟨by decide, by decide⟩
theorem sf_kn2 : sf_B (-2) (-2) (-2) := ⟨by decide, by decide⟩
theorem sf_kn1 : sf_B (-1) (-1) (-1) := ⟨by decide, by decide⟩
theorem sf_k0 : sf_B 0 0 0 := ⟨by decide, by decide⟩
theorem sf_k1 : sf_B 1 1 1 := ⟨by decide, by decide⟩
theorem sf_k2 : sf_B 2 2 2 := ⟨by decide, by decide⟩
theorem sf_k3 : sf_B 3 3 3 := ⟨by decide, by decide⟩
theorem sf_k4 : sf_B 4 4 4 := ⟨by decide, by decide⟩
theorem sf_k5 : sf_B 5 5 5 := ⟨by decide, by decide⟩
theorem sf_k6 : sf_B 6 6 6 := ⟨by decide, by decide⟩
theorem sf_k7 : sf_B 7 7 7 := ⟨by decide, by decide⟩
theorem sf_k8 : sf_B 8 8 8 := ⟨by decide, by decide⟩
theorem sf_k9 : sf_B 9 9 9 := ⟨by decide, by decide⟩
theorem sf_k10 : sf_B 10 10 10 := ⟨by decide, by decide⟩
theorem sf_k11 : sf_B 11 11 11 := ⟨by decide, by decide⟩
theorem sf_k12 : sf_B 12 12 12 := ⟨by decide, by decide⟩
theorem sf_k13 : sf_B 13 13 13 := ⟨by decide, by decide⟩
theorem sf_k14 : sf_B 14 14 14 := ⟨by decide, by decide⟩
theorem sf_k15 : sf_B 15 15 15 := ⟨by decide, by decide⟩
theorem sf_k16 : sf_B 16 16 16 := ⟨by decide, by decide⟩
theorem sf_k17 : sf_B 17 17 17 := ⟨by decide, by decide⟩
theorem sf_k18 : sf_B 18 18 18 := ⟨by decide, by decide⟩
theorem sf_k19 : sf_B 19 19 19 := ⟨by decide, by decide⟩
theorem sf_k20 : sf_B 20 20 20 := ⟨by decide, by decide⟩
theorem sf_k21 : sf_B 21 21 21 := ⟨by decide, by decide⟩
theorem sf_k22 : sf_B 22 22 22 := ⟨by decide, by decide⟩
theorem sf_k23 : sf_B 23 23 23 := ⟨by decide, by decide⟩
theorem sf_k24 : sf_B 24 24 24 := ⟨by decide, by decide⟩
theorem sf_k25 : sf_B 25 25 25 := ⟨by decide, by decide⟩
theorem sf_k26 : sf_B 26 26 26 := ⟨by decide, by decide⟩
theorem sf_k27 : sf_B 27 27 27 := ⟨by decide, by decide⟩
theorem sf_k28 : sf_B 28 28 28 := ⟨by decide, by decide⟩
theorem sf_k29 : sf_B 29 29 29 := ⟨by decide, by decide⟩
theorem sf_k30 : sf_B 30 30 30 := ⟨by decide, by decide⟩
theorem sf_k31 : sf_B 31 31 31 := ⟨by decide, by decide⟩
theorem sf_k32 : sf_B 32 32 32 := ⟨by decide, by decide⟩
theorem sf_k33 : sf_B 33 33 33 := ⟨by decide, by decide⟩
theorem sf_k34 : sf_B 34 34 34 := ⟨by decide, by decide⟩
theorem sf_k35 : sf_B 35 35 35 := ⟨by decide, by decide⟩
theorem sf_k36 : sf_B 36 36 36 := ⟨by decide, by decide⟩
theorem sf_k37 : sf_B 37 37 37 := ⟨by decide, by decide⟩
theorem sf_k38 : sf_B 38 38 38 := ⟨by decide, by decide⟩
theorem sf_k39 : sf_B 39 39 39 := ⟨by decide, by decide⟩
theorem sf_k40 : sf_B 40 40 40 := ⟨by decide, by decide⟩
theorem sf_k41 : sf_B 41 41 41 := ⟨by decide, by decide⟩
theorem sf_k42 : sf_B 42 42 42 := ⟨by decide, by decide⟩
theorem sf_k43 : sf_B 43 43 43 := ⟨by decide, by decide⟩
theorem sf_k44 : sf_B 44 44 44 := ⟨by decide, by decide⟩
theorem sf_k45 : sf_B 45 45 45 := ⟨by decide, by decide⟩
theorem sf_k46 : sf_B 46 46 46 := ⟨by decide, by decide⟩
theorem sf_k47 : sf_B 47 47 47 := ⟨by decide, by decide⟩
theorem sf_k48 : sf_B 48 48 48 := ⟨by decide, by decide⟩
theorem sf_k49 : sf_B 49 49 49 := ⟨by decide, by decide⟩
theorem sf_k50 : sf_B 50 50 50 := ⟨by decide, by decide⟩
theorem sf_k51 : sf_B 51 51 51 := ⟨by decide, by decide⟩
theorem sf_k52 : sf_B 52 52 52 := ⟨by decide, by decide⟩
theorem sf_k53 : sf_B 53 53 53 := ⟨by decide, by decide⟩
theorem sf_k54 : sf_B 54 54 54 := ⟨by decide, by decide⟩
theorem sf_k55 : sf_B 55 55 55 := ⟨by decide, by decide⟩
theorem sf_k56 : sf_B 56 56 56 := ⟨by decide, by decide⟩
theorem sf_k57 : sf_B 57 57 57 := ⟨by decide, by decide⟩
theorem sf_k58 : sf_B 58 58 58 := ⟨by decide, by decide⟩
theorem sf_k59 : sf_B 59 59 59 := ⟨by decide, by decide⟩
theorem sf_k60 : sf_B 60 60 60 := ⟨by decide, by decide⟩
theorem sf_k61 : sf_B 61 61 61 := ⟨by decide, by decide⟩
theorem sf_k62 : sf_B 62 62 62 := ⟨by decide, by decide⟩
theorem sf_k63 : sf_B 63 63 63 := ⟨by decide, by decide⟩
theorem sf_k64 : sf_B 64 64 64 := ⟨by decide, by decide⟩
theorem sf_k65 : sf_B 65 65 65 := ⟨by decide, by decide⟩
theorem sf_k66 : sf_B 66 66 66 := ⟨by decide, by decide⟩
theorem sf_k67 : sf_B 67 67 67 := ⟨by decide, by decide⟩
theorem sf_k68 : sf_B 68 68 68 := ⟨by decide, by decide⟩
theorem sf_k69 : sf_B 69 69 69 := ⟨by decide, by decide⟩
theorem sf_k70 : sf_B 70 70 70 := ⟨by decide, by decide⟩
theorem sf_k71 : sf_B 71 71 71 := ⟨by decide, by decide⟩
theorem sf_k72 : sf_B 72 72 72 := ⟨by decide, by decide⟩
theorem sf_k73 : sf_B 73 73 73 := ⟨by decide, by decide⟩
theorem sf_k74 : sf_B 74 74 74 := ⟨by decide, by decide⟩
theorem sf_k75 : sf_B 75 75 75 := ⟨by decide, by decide⟩
theorem sf_k76 : sf_B 76 76 76 := ⟨by decide, by decide⟩
theorem sf_k77 : sf_B 77 77 77 := ⟨by decide, by decide⟩
theorem sf_k78 : sf_B 78 78 78 := ⟨by decide, by decide⟩
theorem sf_k79 : sf_B 79 79 79 := ⟨by decide, by decide⟩
theorem sf_k80 : sf_B 80 80 80 := ⟨by decide, by decide⟩
theorem sf_k81 : sf_B 81 81 81 := ⟨by decide, by decide⟩
theorem sf_k82 : sf_B 82 82 82 := ⟨by decide, by decide⟩
theorem sf_k83 : sf_B 83 83 83 := ⟨by decide, by decide⟩
theorem sf_k84 : sf_B 84 84 84 := ⟨by decide, by decide⟩
theorem sf_k85 : sf_B 85 85 85 := ⟨by decide, by decide⟩
theorem sf_k86 : sf_B 86 86 86 := ⟨by decide, by decide⟩
theorem sf_k87 : sf_B 87 87 87 := ⟨by decide, by decide⟩
theorem sf_k88 : sf_B 88 88 88 := ⟨by decide, by decide⟩
theorem sf_k89 : sf_B 89 89 89 := ⟨by decide, by decide⟩
theorem sf_k90 : sf_B 90 90 90 := ⟨by decide, by decide⟩
theorem sf_k91 : sf_B 91 91 91 := ⟨by decide, by decide⟩
theorem sf_k92 : sf_B 92 92 92 := ⟨by decide, by decide⟩
theorem sf_k93 : sf_B 93 93 93 := ⟨by decide, by decide⟩
theorem sf_k94 : sf_B 94 94 94 := ⟨by decide, by decide⟩
theorem sf_k95 : sf_B 95 95 95 := ⟨by decide, by decide⟩
theorem sf_k96 : sf_B 96 96 96 := ⟨by decide, by decide⟩
theorem sf_k97 : sf_B 97 97 97 := ⟨by decide, by decide⟩
theorem sf_k98 : sf_B 98 98 98 := ⟨by decide, by decide⟩
theorem sf_k99 : sf_B 99 99 99 := ⟨by decide, by decide⟩
theorem sf_k100 : sf_B 100 100 100 := ⟨by decide, by decide⟩
theorem sf_k101 : sf_B 101 101 101 := ⟨by decide, by decide⟩
theorem sf_k102 : sf_B 102 102 102 := ⟨by decide, by decide⟩
theorem sf_k103 : sf_B 103 103 103 := ⟨by decide, by decide⟩
theorem sf_k104 : sf_B 104 104 104 := ⟨by decide, by decide⟩
theorem sf_k105 : sf_B 105 105 105 := ⟨by decide, by decide⟩
theorem sf_k106 : sf_B 106 106 106 := ⟨by decide, by decide⟩
theorem sf_k107 : sf_B 107 107 107 := ⟨by decide, by decide⟩
theorem sf_k108 : sf_B 108 108 108 := ⟨by decide, by decide⟩
theorem sf_k109 : sf_B 109 109 109 := ⟨by decide, by decide⟩
theorem sf_k110 : sf_B 110 110 110 := ⟨by decide, by decide⟩
theorem sf_k111 : sf_B 111 111 111 := ⟨by decide, by decide⟩
theorem sf_k112 : sf_B 112 112 112 := ⟨by decide, by decide⟩
theorem sf_k113 : sf_B 113 113 113 := ⟨by decide, by decide⟩
theorem sf_k114 : sf_B 114 114 114 := ⟨by decide, by decide⟩
theorem sf_k115 : sf_B 115 115 115 := ⟨by decide, by decide⟩
theorem sf_k116 : sf_B 116 116 116 := ⟨by decide, by decide⟩
theorem sf_k117 : sf_B 117 117 117 := ⟨by decide, by decide⟩
theorem sf_k118 : sf_B 118 118 118 := ⟨by decide, by decide⟩
theorem sf_k119 : sf_B 119 119 119 := ⟨by decide, by decide⟩
theorem sf_k120 : sf_B 120 120 120 := ⟨by decide, by decide⟩
theorem sf_k121 : sf_B 121 121 121 := ⟨by decide, by decide⟩
theorem sf_k122 : sf_B 122 122 122 := ⟨by decide, by decide⟩
theorem sf_k123 : sf_B 123 123 123 := ⟨by decide, by decide⟩
theorem sf_k124 : sf_B 124 124 124 := ⟨by decide, by decide⟩
theorem sf_k125 : sf_B 125 125 125 := ⟨by decide, by decide⟩
theorem sf_k126 : sf_B 126 126 126 := ⟨by decide, by decide⟩
theorem sf_k127 : sf_B 127 127 127 := ⟨by decide, by decide⟩
theorem sf_k128 : sf_B 128 128 128 := ⟨by decide, by decide⟩
theorem sf_k129 : sf_B 129 129 129 := ⟨by decide, by decide⟩
theorem sf_k144 : sf_B 144 144 144 := ⟨by decide, by decide⟩
theorem sf_k152 : sf_B 152 152 152 := ⟨by decide, by decide⟩
theorem sf_k156 : sf_B 156 156 156 := ⟨by decide, by decide⟩
theorem sf_k160 : sf_B 160 160 160 := ⟨by decide, by decide⟩
theorem sf_k200 : sf_B 200 200 200 := ⟨by decide, by decide⟩
theorem sf_k255 : sf_B 255 255 255 := ⟨by decide, by decide⟩
theorem sf_k304 : sf_B 304 304 304 := ⟨by decide, by decide⟩
theorem sf_k306 : sf_B 306 306 306 := ⟨by decide, by decide⟩
theorem sf_k468 : sf_B 468 468 468 := ⟨by decide, by decide⟩
theorem sf_k600 : sf_B 600 600 600 := ⟨by decide, by decide⟩
theorem sf_k601 : sf_B 601 601 601 := ⟨by decide, by decide⟩
theorem sf_k800 : sf_B 800 800 800 := ⟨by decide, by decide⟩
theorem sf_k864 : sf_B 864 864 864 := ⟨by decide, by decide⟩
theorem sf_k999 : sf_B 999 999 999 := ⟨by decide, by decide⟩
theorem sf_k1000 : sf_B 1000 1000 1000 := ⟨by decide, by decide⟩
theorem sf_k1110 : sf_B 1110 1110 1110 := ⟨by decide, by decide⟩
theorem sf_k1111 : sf_B 1111 1111 1111 := ⟨by decide, by decide⟩
theorem sf_k1216 : sf_B 1216 1216 1216 := ⟨by decide, by decide⟩
theorem sf_k2400 : sf_B 2400 2400 2400 := ⟨by decide, by decide⟩
theorem sf_k6666 : sf_B 6666 6666 6666 := ⟨by decide, by decide⟩
theorem sf_k9999 : sf_B 9999 9999 9999 := ⟨by decide, by decide⟩
theorem sf_k10000 : sf_B 10000 10000 10000 := ⟨by decide, by decide⟩
theorem sf_k11110 : sf_B 11110 11110 11110 := ⟨by decide, by decide⟩
theorem sf_k12345 : sf_B 12345 12345 12345 := ⟨by decide, by decide⟩
theorem sf_k23400 : sf_B 23400 23400 23400 := ⟨by decide, by decide⟩
theorem sf_k43200 : sf_B 43200 43200 43200 := ⟨by decide, by decide⟩
theorem sf_k7237492 : sf_B 7237492 7237492 7237492 := ⟨by decide, by decide⟩
theorem sf_k252645135 : sf_B 252645135 252645135 252645135 := ⟨by decide, by decide⟩
theorem sf_k858993459 : sf_B 858993459 858993459 858993459 := ⟨by decide, by decide⟩
theorem sf_k1103515245 : sf_B 1103515245 1103515245 1103515245 := ⟨by decide, by decide⟩
theorem sf_k1431655765 : sf_B 1431655765 1431655765 1431655765 := ⟨by decide, by decide⟩
theorem sf_k1635213689 : sf_B 1635213689 1635213689 1635213689 := ⟨by decide, by decide⟩
theorem sf_k1751474532 : sf_B 1751474532 1751474532 1751474532 := ⟨by decide, by decide⟩
theorem sf_k1818588019 : sf_B 1818588019 1818588019 1818588019 := ⟨by decide, by decide⟩
theorem sf_k1819242347 : sf_B 1819242347 1819242347 1819242347 := ⟨by decide, by decide⟩
theorem sf_k1836020596 : sf_B 1836020596 1836020596 1836020596 := ⟨by decide, by decide⟩
theorem sf_k1852137842 : sf_B 1852137842 1852137842 1852137842 := ⟨by decide, by decide⟩
theorem sf_k1885432178 : sf_B 1885432178 1885432178 1885432178 := ⟨by decide, by decide⟩
theorem sf_k1886156147 : sf_B 1886156147 1886156147 1886156147 := ⟨by decide, by decide⟩
theorem sf_k1920298085 : sf_B 1920298085 1920298085 1920298085 := ⟨by decide, by decide⟩
theorem sf_k1935767923 : sf_B 1935767923 1935767923 1935767923 := ⟨by decide, by decide⟩
theorem sf_k1936024942 : sf_B 1936024942 1936024942 1936024942 := ⟨by decide, by decide⟩
theorem sf_k1936287598 : sf_B 1936287598 1936287598 1936287598 := ⟨by decide, by decide⟩
theorem sf_k1952541036 : sf_B 1952541036 1952541036 1952541036 := ⟨by decide, by decide⟩
end
