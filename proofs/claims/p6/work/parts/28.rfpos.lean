/-! what lies where in the reference's told arrays -/
theorem sf_nat {a b : Int} {z : Int32} (B : sf_B a b z) (ha : 0 ≤ a) : (z.toNatClampNeg : Int) = z.toInt := by
  have h1 := B.1
  have e : z.toNatClampNeg = z.toInt.toNat := rfl
  rw [e]; omega
theorem sf_addL {a b c e p q : Int} {x y z : Int32} (h : z.toInt = x.toInt + y.toInt) (Bz : sf_B a b z) (By : sf_B c e y) (Bx : sf_B p q x) : sf_B p (b - c) x := by
  have h1 := Bz.2; have h2 := By.1; have h3 := Bx.1
  unfold sf_B; omega
theorem sf_addR {a b c e p q : Int} {x y z : Int32} (h : z.toInt = x.toInt + y.toInt) (Bz : sf_B a b z) (By : sf_B c e y) (Bx : sf_B p q x) : sf_B c (b - p) y := by
  have h1 := Bz.2; have h2 := By.1; have h3 := Bx.1
  unfold sf_B; omega
theorem sf_same {a b : Int} {x y z u : Int32} (h1 : z.toInt = x.toInt + y.toInt) (h2 : u.toInt = x.toInt + y.toInt) (B : sf_B a b z) : sf_B a b u := by
  have := B.1; have := B.2
  unfold sf_B; omega
theorem rf_res {z l : Int32} {a b r : Int} (P : Nat) (he : z.toInt = (P : Int) * l.toInt + r) (Bl : sf_B a b l) (ha : 0 ≤ a) (h0 : 0 ≤ r) (h1 : r < P) : z.toNatClampNeg % P = r.toNat := by
  have e0 : z.toNatClampNeg = z.toInt.toNat := rfl
  have hl : 0 ≤ l.toInt := Int.le_trans ha Bl.1
  obtain ⟨n, hn⟩ := Int.eq_ofNat_of_zero_le hl
  have e1 : (P : Int) * (n : Int) = ((P * n : Nat) : Int) := by rw [Int.natCast_mul]
  have e2 : (((P * n : Nat) : Int) + r).toNat = P * n + r.toNat := by omega
  rw [e0, he, hn, e1, e2, Nat.mul_add_mod, Nat.mod_eq_of_lt (by omega)]
section RFP
variable {f : Nat → Int32} {z l k : Int32} {a b c e : Int}
theorem rf_bnd {u v u' v' : Int} {x : Int32} (B : sf_B u v x) (h1 : u = u') (h2 : v = v') : sf_B u' v' x := by subst h1; subst h2; exact B
theorem rf_p47a (hb : ∀ j, sf_B (rf_l0 (j % 100)) (rf_l1 (j % 100)) (f j)) (he : z.toInt = 100 * l.toInt + 0) (Bl : sf_B a b l) (ha : 0 ≤ a) : sf_B 0 10 (f z.toNatClampNeg) := by
  have h1 := Bl.1
  have e0 : z.toNatClampNeg = z.toInt.toNat := rfl
  have hr : z.toNatClampNeg % 100 = 0 := by rw [e0]; omega
  have := hb z.toNatClampNeg
  rw [hr] at this
  exact this
theorem rf_p47b (hb : ∀ j, sf_B (rf_l0 (j % 100)) (rf_l1 (j % 100)) (f j)) (he : z.toInt = 100 * l.toInt + 1) (Bl : sf_B a b l) (ha : 0 ≤ a) : sf_B 0 16 (f z.toNatClampNeg) := by
  have h1 := Bl.1
  have e0 : z.toNatClampNeg = z.toInt.toNat := rfl
  have hr : z.toNatClampNeg % 100 = 1 := by rw [e0]; omega
  have := hb z.toNatClampNeg
  rw [hr] at this
  exact this
theorem rf_l1r {r : Nat} (h1 : 2 ≤ r) (h2 : r < 42) (h3 : ¬ (r - 2) % 4 = 3) : rf_l1 r = 5 := by
  unfold rf_l1
  rw [if_neg (by omega), if_neg (by omega), if_pos h2, if_neg h3]
theorem rf_l1t {r : Nat} (h1 : 2 ≤ r) (h2 : r < 42) (h3 : (r - 2) % 4 = 3) : rf_l1 r = 4 := by
  unfold rf_l1
  rw [if_neg (by omega), if_neg (by omega), if_pos h2, if_pos h3]
theorem rf_l1s {r : Nat} (h1 : 42 ≤ r) (h2 : r < 90) (h3 : (r - 42) % 3 = 0) : rf_l1 r = 9 := by
  unfold rf_l1
  rw [if_neg (by omega), if_neg (by omega), if_neg (by omega), if_pos h2, if_pos h3]
theorem rf_l1k {r : Nat} (h1 : 42 ≤ r) (h2 : r < 90) (h3 : (r - 42) % 3 = 1) : rf_l1 r = 5 := by
  unfold rf_l1
  rw [if_neg (by omega), if_neg (by omega), if_neg (by omega), if_pos h2, if_neg (by omega), if_pos h3]
theorem rf_l1v {r : Nat} (h1 : 42 ≤ r) (h2 : r < 90) (h3 : (r - 42) % 3 = 2) : rf_l1 r = 49 := by
  unfold rf_l1
  rw [if_neg (by omega), if_neg (by omega), if_neg (by omega), if_pos h2, if_neg (by omega), if_neg (by omega)]
theorem rf_l1n {r : Nat} (h1 : 90 ≤ r) : rf_l1 r = 2147483647 := by
  unfold rf_l1
  rw [if_neg (by omega), if_neg (by omega), if_neg (by omega), if_neg (by omega)]
theorem rf_p47r (hb : ∀ j, sf_B (rf_l0 (j % 100)) (rf_l1 (j % 100)) (f j)) {t : Int} (he : z.toInt = 100 * l.toInt + 4 * k.toInt + t) (Bl : sf_B a b l) (Bk : sf_B c e k) (ha : 0 ≤ a) (hc : 0 ≤ c ∧ e ≤ 9) (ht : 2 ≤ t ∧ t ≤ 4) : sf_B 0 5 (f z.toNatClampNeg) := by
  have h1 := Bl.1; have h2 := Bk.1; have h3 := Bk.2
  have hr := rf_res (z := z) (l := l) (r := 4 * k.toInt + t) 100 (by omega) Bl ha (by omega) (by omega)
  exact rf_bnd (hr ▸ hb z.toNatClampNeg) (if_pos (by omega)) (rf_l1r (by omega) (by omega) (by omega))
theorem rf_p47t (hb : ∀ j, sf_B (rf_l0 (j % 100)) (rf_l1 (j % 100)) (f j)) {t : Int} (he : z.toInt = 100 * l.toInt + 4 * k.toInt + t) (Bl : sf_B a b l) (Bk : sf_B c e k) (ha : 0 ≤ a) (hc : 0 ≤ c ∧ e ≤ 9) (ht : t = 5) : sf_B 0 4 (f z.toNatClampNeg) := by
  have h1 := Bl.1; have h2 := Bk.1; have h3 := Bk.2
  have hr := rf_res (z := z) (l := l) (r := 4 * k.toInt + t) 100 (by omega) Bl ha (by omega) (by omega)
  exact rf_bnd (hr ▸ hb z.toNatClampNeg) (if_pos (by omega)) (rf_l1t (by omega) (by omega) (by omega))
theorem rf_p47s (hb : ∀ j, sf_B (rf_l0 (j % 100)) (rf_l1 (j % 100)) (f j)) {t : Int} (he : z.toInt = 100 * l.toInt + 3 * k.toInt + t) (Bl : sf_B a b l) (Bk : sf_B c e k) (ha : 0 ≤ a) (hc : 0 ≤ c ∧ e ≤ 15) (ht : t = 42) : sf_B 0 9 (f z.toNatClampNeg) := by
  have h1 := Bl.1; have h2 := Bk.1; have h3 := Bk.2
  have hr := rf_res (z := z) (l := l) (r := 3 * k.toInt + t) 100 (by omega) Bl ha (by omega) (by omega)
  exact rf_bnd (hr ▸ hb z.toNatClampNeg) (if_pos (by omega)) (rf_l1s (by omega) (by omega) (by omega))
theorem rf_p47k (hb : ∀ j, sf_B (rf_l0 (j % 100)) (rf_l1 (j % 100)) (f j)) {t : Int} (he : z.toInt = 100 * l.toInt + 3 * k.toInt + t) (Bl : sf_B a b l) (Bk : sf_B c e k) (ha : 0 ≤ a) (hc : 0 ≤ c ∧ e ≤ 15) (ht : t = 43) : sf_B 0 5 (f z.toNatClampNeg) := by
  have h1 := Bl.1; have h2 := Bk.1; have h3 := Bk.2
  have hr := rf_res (z := z) (l := l) (r := 3 * k.toInt + t) 100 (by omega) Bl ha (by omega) (by omega)
  exact rf_bnd (hr ▸ hb z.toNatClampNeg) (if_pos (by omega)) (rf_l1k (by omega) (by omega) (by omega))
theorem rf_p47v (hb : ∀ j, sf_B (rf_l0 (j % 100)) (rf_l1 (j % 100)) (f j)) {t : Int} (he : z.toInt = 100 * l.toInt + 3 * k.toInt + t) (Bl : sf_B a b l) (Bk : sf_B c e k) (ha : 0 ≤ a) (hc : 0 ≤ c ∧ e ≤ 15) (ht : t = 44) : sf_B 0 49 (f z.toNatClampNeg) := by
  have h1 := Bl.1; have h2 := Bk.1; have h3 := Bk.2
  have hr := rf_res (z := z) (l := l) (r := 3 * k.toInt + t) 100 (by omega) Bl ha (by omega) (by omega)
  exact rf_bnd (hr ▸ hb z.toNatClampNeg) (if_pos (by omega)) (rf_l1v (by omega) (by omega) (by omega))
theorem rf_p48 (hb : ∀ j, sf_B 0 (if j % 13 = 0 then 12 else 9) (f j)) (j : Nat) : sf_B 0 12 (f j) := sf_weak (hb j) (Int.le_refl 0) (by split <;> decide)
theorem rf_p48a (hb : ∀ j, sf_B 0 (if j % 13 = 0 then 12 else 9) (f j)) (_ : z.toInt = 13 * l.toInt + 0) (_ : sf_B a b l) (_ : 0 ≤ a) : sf_B 0 12 (f z.toNatClampNeg) := rf_p48 hb _
theorem rf_p48s (hb : ∀ j, sf_B 0 (if j % 13 = 0 then 12 else 9) (f j)) {t : Int} (he : z.toInt = 13 * l.toInt + 1 * k.toInt + t) (Bl : sf_B a b l) (Bk : sf_B c e k) (ha : 0 ≤ a) (hc : 0 ≤ c ∧ e ≤ 11) (ht : t = 1) : sf_B 0 9 (f z.toNatClampNeg) := by
  have h1 := Bl.1; have h2 := Bk.1; have h3 := Bk.2
  have hr := rf_res (z := z) (l := l) (r := 1 * k.toInt + t) 13 (by omega) Bl ha (by omega) (by omega)
  exact rf_bnd (hr ▸ hb z.toNatClampNeg) rfl (if_neg (by omega))
theorem rf_p49a (hb : ∀ j, sf_B (rf_m0 (j % 152)) (rf_m1 (j % 152)) (f j)) (he : z.toInt = 152 * l.toInt + 0) (Bl : sf_B a b l) (ha : 0 ≤ a) : sf_B 0 6 (f z.toNatClampNeg) := by
  have h1 := Bl.1
  have e0 : z.toNatClampNeg = z.toInt.toNat := rfl
  have hr : z.toNatClampNeg % 152 = 0 := by rw [e0]; omega
  have := hb z.toNatClampNeg
  rw [hr] at this
  exact this
theorem rf_p49b (hb : ∀ j, sf_B (rf_m0 (j % 152)) (rf_m1 (j % 152)) (f j)) (he : z.toInt = 152 * l.toInt + 1) (Bl : sf_B a b l) (ha : 0 ≤ a) : sf_B 0 50 (f z.toNatClampNeg) := by
  have h1 := Bl.1
  have e0 : z.toNatClampNeg = z.toInt.toNat := rfl
  have hr : z.toNatClampNeg % 152 = 1 := by rw [e0]; omega
  have := hb z.toNatClampNeg
  rw [hr] at this
  exact this
theorem rf_m1c {r : Nat} (h1 : 2 ≤ r) : rf_m1 r = if (r - 2) % 3 = 0 then 2 else if (r - 2) % 3 = 1 then 5 else 9 := by
  unfold rf_m1
  rw [if_neg (by omega), if_neg (by omega)]
theorem rf_m0c {r : Nat} (h1 : 2 ≤ r) : rf_m0 r = if (r - 2) % 3 = 2 then -1 else 0 := by
  unfold rf_m0
  rw [if_neg (by omega)]
theorem rf_p49s (hb : ∀ j, sf_B (rf_m0 (j % 152)) (rf_m1 (j % 152)) (f j)) {t : Int} (he : z.toInt = 152 * l.toInt + 3 * k.toInt + t) (Bl : sf_B a b l) (Bk : sf_B c e k) (ha : 0 ≤ a) (hc : 0 ≤ c ∧ e ≤ 49) (ht : t = 2) : sf_B 0 2 (f z.toNatClampNeg) := by
  have h1 := Bl.1; have h2 := Bk.1; have h3 := Bk.2
  have hr := rf_res (z := z) (l := l) (r := 3 * k.toInt + t) 152 (by omega) Bl ha (by omega) (by omega)
  exact rf_bnd (hr ▸ hb z.toNatClampNeg) (by rw [rf_m0c (by omega), if_neg (by omega)]) (by rw [rf_m1c (by omega), if_pos (by omega)])
theorem rf_p49w (hb : ∀ j, sf_B (rf_m0 (j % 152)) (rf_m1 (j % 152)) (f j)) {t : Int} (he : z.toInt = 152 * l.toInt + 3 * k.toInt + t) (Bl : sf_B a b l) (Bk : sf_B c e k) (ha : 0 ≤ a) (hc : 0 ≤ c ∧ e ≤ 49) (ht : t = 3) : sf_B 0 5 (f z.toNatClampNeg) := by
  have h1 := Bl.1; have h2 := Bk.1; have h3 := Bk.2
  have hr := rf_res (z := z) (l := l) (r := 3 * k.toInt + t) 152 (by omega) Bl ha (by omega) (by omega)
  exact rf_bnd (hr ▸ hb z.toNatClampNeg) (by rw [rf_m0c (by omega), if_neg (by omega)]) (by rw [rf_m1c (by omega), if_neg (by omega), if_pos (by omega)])
theorem rf_p49o (hb : ∀ j, sf_B (rf_m0 (j % 152)) (rf_m1 (j % 152)) (f j)) {t : Int} (he : z.toInt = 152 * l.toInt + 3 * k.toInt + t) (Bl : sf_B a b l) (Bk : sf_B c e k) (ha : 0 ≤ a) (hc : 0 ≤ c ∧ e ≤ 49) (ht : t = 4) : sf_B (-1) 9 (f z.toNatClampNeg) := by
  have h1 := Bl.1; have h2 := Bk.1; have h3 := Bk.2
  have hr := rf_res (z := z) (l := l) (r := 3 * k.toInt + t) 152 (by omega) Bl ha (by omega) (by omega)
  exact rf_bnd (hr ▸ hb z.toNatClampNeg) (by rw [rf_m0c (by omega), if_pos (by omega)]) (by rw [rf_m1c (by omega), if_neg (by omega), if_neg (by omega)])
theorem rf_p50a (hb : ∀ j, sf_B (rf_h0 (j % 25)) (rf_h1 (j % 25)) (f j)) (he : z.toInt = 25 * l.toInt + 0) (Bl : sf_B a b l) (ha : 0 ≤ a) : sf_B 0 8 (f z.toNatClampNeg) := by
  have h1 := Bl.1
  have e0 : z.toNatClampNeg = z.toInt.toNat := rfl
  have hr : z.toNatClampNeg % 25 = 0 := by rw [e0]; omega
  have := hb z.toNatClampNeg
  rw [hr] at this
  exact this
theorem rf_p50s (hb : ∀ j, sf_B (rf_h0 (j % 25)) (rf_h1 (j % 25)) (f j)) {t : Int} (he : z.toInt = 25 * l.toInt + 3 * k.toInt + t) (Bl : sf_B a b l) (Bk : sf_B c e k) (ha : 0 ≤ a) (hc : 0 ≤ c ∧ e ≤ 7) (ht : t = 1) : sf_B 0 5 (f z.toNatClampNeg) := by
  have h1 := Bl.1; have h2 := Bk.1; have h3 := Bk.2
  have hr := rf_res (z := z) (l := l) (r := 3 * k.toInt + t) 25 (by omega) Bl ha (by omega) (by omega)
  exact rf_bnd (hr ▸ hb z.toNatClampNeg) (by unfold rf_h0; rw [if_neg (by omega), if_neg (by omega)]) (by unfold rf_h1; rw [if_neg (by omega), if_pos (by omega)])
theorem rf_p50f (hb : ∀ j, sf_B (rf_h0 (j % 25)) (rf_h1 (j % 25)) (f j)) {t : Int} (he : z.toInt = 25 * l.toInt + 3 * k.toInt + t) (Bl : sf_B a b l) (Bk : sf_B c e k) (ha : 0 ≤ a) (hc : 0 ≤ c ∧ e ≤ 7) (ht : t = 2) : sf_B 0 9 (f z.toNatClampNeg) := by
  have h1 := Bl.1; have h2 := Bk.1; have h3 := Bk.2
  have hr := rf_res (z := z) (l := l) (r := 3 * k.toInt + t) 25 (by omega) Bl ha (by omega) (by omega)
  exact rf_bnd (hr ▸ hb z.toNatClampNeg) (by unfold rf_h0; rw [if_neg (by omega), if_neg (by omega)]) (by unfold rf_h1; rw [if_neg (by omega), if_neg (by omega)])
theorem rf_p50o (hb : ∀ j, sf_B (rf_h0 (j % 25)) (rf_h1 (j % 25)) (f j)) {t : Int} (he : z.toInt = 25 * l.toInt + 3 * k.toInt + t) (Bl : sf_B a b l) (Bk : sf_B c e k) (ha : 0 ≤ a) (hc : 0 ≤ c ∧ e ≤ 7) (ht : t = 3) : sf_B (-1) 9 (f z.toNatClampNeg) := by
  have h1 := Bl.1; have h2 := Bk.1; have h3 := Bk.2
  have hr := rf_res (z := z) (l := l) (r := 3 * k.toInt + t) 25 (by omega) Bl ha (by omega) (by omega)
  exact rf_bnd (hr ▸ hb z.toNatClampNeg) (by unfold rf_h0; rw [if_neg (by omega), if_pos (by omega)]) (by unfold rf_h1; rw [if_neg (by omega), if_neg (by omega)])
theorem rf_p66 (hb : ∀ j, sf_B 0 (if j = 0 then 4 else 9) (f j)) (j : Nat) : sf_B 0 9 (f j) := sf_weak (hb j) (Int.le_refl 0) (by split <;> decide)
theorem rf_u66 (hb : ∀ j, sf_B 0 (if j = 0 then 4 else 9) (f j)) {v : Int32} (hv : sf_B 0 4 v) : ∀ j, sf_B 0 (if j = 0 then 4 else 9) (upd f (Int32.toNatClampNeg 0) v j) := by
  intro j
  show sf_B 0 _ (if j = 0 then v else f j)
  split
  · exact hv
  · rename_i h; have := hb j; rw [if_neg h] at this; exact this
theorem rf_v66 (hb : ∀ j, sf_B 0 (if j = 0 then 4 else 9) (f j)) {v : Int32} (hv : sf_B 0 9 v) (Bj : sf_B a b z) (ha : 1 ≤ a) : ∀ j, sf_B 0 (if j = 0 then 4 else 9) (upd f z.toNatClampNeg v j) := by
  intro j
  have h1 := Bj.1
  have e0 : z.toNatClampNeg = z.toInt.toNat := rfl
  unfold upd
  by_cases h : j = z.toNatClampNeg
  · rw [if_pos h, if_neg (by omega)]; exact hv
  · rw [if_neg h]; exact hb j
end RFP
theorem sf_leT {a b c e : Int} {x y : Int32} (h : x.toInt ≤ y.toInt) (Bx : sf_B a b x) (By : sf_B c e y) : sf_B a e x := by
  have h1 := Bx.1; have h2 := By.2
  unfold sf_B; omega
/-- a ROW that is there -/
def rf_V (h : pm_H) (r : Int32) : Prop := ∃ f : Nat → Int32, h.2.2 46 = .inl (0, 16, .inl f) ∧ 0 ≤ r.toInt ∧ r.toInt < (f 1).toInt
theorem rf_V.mk {h : pm_H} {f : Nat → Int32} {r z y : Int32} {a b : Int} (e : h.2.2 46 = .inl (0, 16, .inl f)) (ez : f (Int32.toNatClampNeg 1) = z) (ey : y.toInt = z.toInt - (1 : Int32).toInt) (p : r ≤ y) (B : sf_B a b r) (ha : 0 ≤ a) : rf_V h r := by
  refine ⟨f, e, Int.le_trans ha B.1, ?_⟩
  have h1 := Int32.le_iff_toInt_le.mp p
  have h2 : (1 : Int32).toInt = 1 := rfl
  have h3 : f 1 = z := ez
  rw [h3]
  omega
theorem rf_V.F {l : List Nat} {h h' : pm_H} {r : Int32} (V : rf_V h r) (F : rf_G l h h') (hl : 46 ∉ l) : rf_V h' r := by
  obtain ⟨f, e, h1, h2⟩ := V
  exact ⟨f, by rw [F.2.2 46 hl]; exact e, h1, h2⟩
theorem rf_V.back {l : List Nat} {h h' : pm_H} {r : Int32} (V : rf_V h' r) (F : rf_G l h h') (hl : 46 ∉ l) : rf_V h r := by
  obtain ⟨f, e, h1, h2⟩ := V
  exact ⟨f, by rw [← F.2.2 46 hl]; exact e, h1, h2⟩
theorem rf_p48v {m : Nat → Int32} {w : Int64} {h : pm_H} {g : Nat → Int32} {z l : Int32} (T : rf_T m w h) (e : h.2.2 48 = .inl (0, 156, .inl g)) (V : rf_V h l) (he : z.toInt = 13 * l.toInt + 0) : sf_B 1 12 (g z.toNatClampNeg) := by
  obtain ⟨f, e1, h1, h2⟩ := V
  obtain ⟨f', ef, bf⟩ := T.2.2.2.1 46 (by decide) (by decide)
  rw [e1] at ef
  cases ef
  have hb := bf 1
  have hb2 : (f 1).toInt ≤ 3 := hb.2
  obtain ⟨g', eg, bg⟩ := T.2.2.2.1 48 (by decide) (by decide)
  rw [e] at eg
  cases eg
  have hx := T.2.2.2.2 f g e1 e 0 l.toInt.toNat (by decide) (by omega) (by rw [Int.toNat_of_nonneg h1]; exact h2)
  have e0 : z.toNatClampNeg = z.toInt.toNat := rfl
  have e2 : 39 * 0 + 13 * l.toInt.toNat = z.toNatClampNeg := by rw [e0]; omega
  rw [e2] at hx
  exact ⟨hx, (rf_p48 bg _).2⟩
theorem lf_any (x : Int64) : lf_B (-9223372036854775808) 9223372036854775807 x := by
  have a := x.toInt_lt; have b := x.le_toInt
  unfold lf_B; omega
theorem lf_geB {a b c e : Int} {x y : Int64} (h : y.toInt ≤ x.toInt) (By : lf_B a b y) (Bx : lf_B c e x) : lf_B a e x := ⟨Int.le_trans By.1 h, Bx.2⟩
theorem sf_eqT {a b : Int} {x y : Int32} (h : x.toInt = y.toInt) (B : sf_B a b y) : sf_B a b x := by
  unfold sf_B; rw [h]; exact B
theorem rf_layX {A : List Nat} {h hk : pm_H} {f g : Nat → Int32} {z z0 x l : Int32} (eo : hk.2.2 48 = .inl (0, 156, .inl f)) (F : rf_G A h hk) (eg : h.2.2 48 = .inl (0, 156, .inl g)) (ez : f z0.toNatClampNeg = z) (ek : x.toInt = z.toInt) (ej : z0.toInt = 13 * l.toInt + 0) (hA : 48 ∉ A) : x.toInt = (g (13 * l.toInt).toNat).toInt := by
  rw [F.2.2 48 hA, eg] at eo
  cases eo
  have e0 : z0.toNatClampNeg = z0.toInt.toNat := rfl
  rw [e0, ej, Int.add_zero] at ez
  rw [ez, ek]
theorem rf_layEq {A : List Nat} {m : Nat → Int32} {w : Int64} {h h1 h2 : pm_H} {x y : Int32} {k : Nat} (T : rf_T m w h) (F1 : rf_G A h h1) (F2 : rf_G A h h2) (hA : 48 ∉ A) (X1 : ∀ g : Nat → Int32, h1.2.2 48 = .inl (0, 156, .inl g) → x.toInt = (g k).toInt) (X2 : ∀ g : Nat → Int32, h2.2.2 48 = .inl (0, 156, .inl g) → y.toInt = (g k).toInt) : y.toInt = x.toInt := by
  obtain ⟨g, e, -⟩ := T.2.2.2.1 48 (by decide) (by decide)
  rw [X1 g (by rw [F1.2.2 48 hA]; exact e), X2 g (by rw [F2.2.2 48 hA]; exact e)]
