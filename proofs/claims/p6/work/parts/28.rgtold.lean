/-! what the reference has read of a text -/
def rf_tl (s : Nat) : Nat := match s with | 0 => 100 | 1 => 13 | 2 => 152 | _ => 25
def rf_t0 (s j : Nat) : Int := match s with | 0 => rf_l0 j | 1 => 0 | 2 => rf_m0 j | _ => rf_h0 j
def rf_t1 (s j : Nat) : Int := match s with | 0 => rf_l1 j | 1 => (if j = 0 then 12 else 9) | 2 => rf_m1 j | _ => rf_h1 j
def rf_ct (s : Nat) (f : Nat → Int32) : Prop := match s with | 0 => sf_B 0 10 (f 0) ∧ sf_B 0 16 (f 1) | 1 => sf_B 0 12 (f 0) | 2 => sf_B 0 50 (f 1) | _ => sf_B 0 8 (f 0)
def rf_bd (s : Nat) (f : Nat → Int32) : Prop := ∀ j, j < rf_tl s → sf_B (rf_t0 s j) (rf_t1 s j) (f j)
def rf_I (s : Nat) (n : Int32) (h : pm_H) : Prop := ∃ f : Nat → Int32, h.2.2 51 = .inl (0, 152, .inl f) ∧ rf_ct s f ∧ (n.toInt = 0 → rf_bd s f)
theorem sf_pos {a b : Int} {x : Int32} (B : sf_B a b x) (h : 1 ≤ a) {C : Prop} (z : x.toInt = 0) : C := by
  have := B.1
  exact absurd z (by omega)
theorem sf_upd_ne {f : Nat → Int32} {k x : Int32} {a b : Int} {j : Nat} (B : sf_B a b k) (ha : 0 ≤ a) (h : (j : Int) < a ∨ b < j) : upd f k.toNatClampNeg x j = f j := by
  have h1 := B.1; have h2 := B.2
  have e0 : k.toNatClampNeg = k.toInt.toNat := rfl
  unfold upd
  rw [if_neg (by rw [e0]; omega)]
theorem rf_bd.set {s : Nat} {f : Nat → Int32} (h : rf_bd s f) {k x : Int32} {a b : Int} (B : sf_B a b x) (ha : rf_t0 s k.toNatClampNeg ≤ a) (hb : b ≤ rf_t1 s k.toNatClampNeg) : rf_bd s (upd f k.toNatClampNeg x) := by
  intro j hj
  unfold upd
  by_cases e : j = k.toNatClampNeg
  · rw [if_pos e, e]; exact sf_weak B ha hb
  · rw [if_neg e]; exact h j hj
/-- the places of a RULE, a READING, a DEED, a LAW, a SIGN: where, and what may lie there -/
theorem rf_w0r {i k : Int32} {t : Int} (e : i.toInt = 2 + 4 * k.toInt + t) (B : sf_B 0 9 k) (h0 : 0 ≤ t) (h1 : t ≤ 2) : rf_t0 0 i.toNatClampNeg ≤ 0 ∧ 5 ≤ rf_t1 0 i.toNatClampNeg := by
  have k1 := B.1; have k2 := B.2
  have e0 : i.toNatClampNeg = i.toInt.toNat := rfl
  refine ⟨Int.le_of_eq (if_pos (by rw [e0]; omega)), Int.le_of_eq (rf_l1r (by rw [e0]; omega) (by rw [e0]; omega) (by rw [e0]; omega)).symm⟩
theorem rf_w0t {i k : Int32} (e : i.toInt = 2 + 4 * k.toInt + 3) (B : sf_B 0 9 k) : rf_t0 0 i.toNatClampNeg ≤ 0 ∧ 4 ≤ rf_t1 0 i.toNatClampNeg := by
  have k1 := B.1; have k2 := B.2
  have e0 : i.toNatClampNeg = i.toInt.toNat := rfl
  refine ⟨Int.le_of_eq (if_pos (by rw [e0]; omega)), Int.le_of_eq (rf_l1t (by rw [e0]; omega) (by rw [e0]; omega) (by rw [e0]; omega)).symm⟩
theorem rf_w0s {i k : Int32} (e : i.toInt = 42 + 3 * k.toInt + 0) (B : sf_B 0 15 k) : rf_t0 0 i.toNatClampNeg ≤ 0 ∧ 9 ≤ rf_t1 0 i.toNatClampNeg := by
  have k1 := B.1; have k2 := B.2
  have e0 : i.toNatClampNeg = i.toInt.toNat := rfl
  refine ⟨Int.le_of_eq (if_pos (by rw [e0]; omega)), Int.le_of_eq (rf_l1s (by rw [e0]; omega) (by rw [e0]; omega) (by rw [e0]; omega)).symm⟩
theorem rf_w0k {i k : Int32} (e : i.toInt = 42 + 3 * k.toInt + 1) (B : sf_B 0 15 k) : rf_t0 0 i.toNatClampNeg ≤ 0 ∧ 5 ≤ rf_t1 0 i.toNatClampNeg := by
  have k1 := B.1; have k2 := B.2
  have e0 : i.toNatClampNeg = i.toInt.toNat := rfl
  refine ⟨Int.le_of_eq (if_pos (by rw [e0]; omega)), Int.le_of_eq (rf_l1k (by rw [e0]; omega) (by rw [e0]; omega) (by rw [e0]; omega)).symm⟩
theorem rf_w0v {i k : Int32} (e : i.toInt = 42 + 3 * k.toInt + 2) (B : sf_B 0 15 k) : rf_t0 0 i.toNatClampNeg ≤ 0 ∧ 49 ≤ rf_t1 0 i.toNatClampNeg := by
  have k1 := B.1; have k2 := B.2
  have e0 : i.toNatClampNeg = i.toInt.toNat := rfl
  refine ⟨Int.le_of_eq (if_pos (by rw [e0]; omega)), Int.le_of_eq (rf_l1v (by rw [e0]; omega) (by rw [e0]; omega) (by rw [e0]; omega)).symm⟩
theorem rf_w1 {i k : Int32} (e : i.toInt = 1 + 1 * k.toInt + 0) (B : sf_B 0 11 k) : rf_t0 1 i.toNatClampNeg ≤ 0 ∧ 9 ≤ rf_t1 1 i.toNatClampNeg := by
  have k1 := B.1; have k2 := B.2
  have e0 : i.toNatClampNeg = i.toInt.toNat := rfl
  refine ⟨Int.le_refl 0, Int.le_of_eq ?_⟩
  show 9 = if i.toNatClampNeg = 0 then 12 else 9
  rw [if_neg (by rw [e0]; omega)]
theorem rf_w2s {i k : Int32} (e : i.toInt = 2 + 3 * k.toInt + 0) (B : sf_B 0 49 k) : rf_t0 2 i.toNatClampNeg ≤ 0 ∧ 2 ≤ rf_t1 2 i.toNatClampNeg := by
  have k1 := B.1; have k2 := B.2
  have e0 : i.toNatClampNeg = i.toInt.toNat := rfl
  refine ⟨?_, ?_⟩
  · show rf_m0 i.toNatClampNeg ≤ 0
    rw [rf_m0c (by rw [e0]; omega)]; split <;> omega
  · show 2 ≤ rf_m1 i.toNatClampNeg
    rw [rf_m1c (by rw [e0]; omega)]; split
    · omega
    · split <;> omega
theorem rf_w2w {i k : Int32} (e : i.toInt = 2 + 3 * k.toInt + 1) (B : sf_B 0 49 k) : rf_t0 2 i.toNatClampNeg ≤ 0 ∧ 5 ≤ rf_t1 2 i.toNatClampNeg := by
  have k1 := B.1; have k2 := B.2
  have e0 : i.toNatClampNeg = i.toInt.toNat := rfl
  refine ⟨?_, ?_⟩
  · show rf_m0 i.toNatClampNeg ≤ 0
    rw [rf_m0c (by rw [e0]; omega)]; split <;> omega
  · show 5 ≤ rf_m1 i.toNatClampNeg
    rw [rf_m1c (by rw [e0]; omega), if_neg (by rw [e0]; omega)]; split <;> omega
theorem rf_w2o {i k : Int32} (e : i.toInt = 2 + 3 * k.toInt + 2) (B : sf_B 0 49 k) : rf_t0 2 i.toNatClampNeg ≤ -1 ∧ 9 ≤ rf_t1 2 i.toNatClampNeg := by
  have k1 := B.1; have k2 := B.2
  have e0 : i.toNatClampNeg = i.toInt.toNat := rfl
  refine ⟨?_, ?_⟩
  · show rf_m0 i.toNatClampNeg ≤ -1
    rw [rf_m0c (by rw [e0]; omega), if_pos (by rw [e0]; omega)]; omega
  · show 9 ≤ rf_m1 i.toNatClampNeg
    rw [rf_m1c (by rw [e0]; omega), if_neg (by rw [e0]; omega), if_neg (by rw [e0]; omega)]; omega
theorem rf_w3s {i k : Int32} (e : i.toInt = 1 + 3 * k.toInt + 0) (B : sf_B 0 7 k) : rf_t0 3 i.toNatClampNeg ≤ 0 ∧ 5 ≤ rf_t1 3 i.toNatClampNeg := by
  have k1 := B.1; have k2 := B.2
  have e0 : i.toNatClampNeg = i.toInt.toNat := rfl
  refine ⟨?_, ?_⟩
  · show rf_h0 i.toNatClampNeg ≤ 0
    unfold rf_h0; rw [if_neg (by rw [e0]; omega)]; split <;> omega
  · show 5 ≤ rf_h1 i.toNatClampNeg
    unfold rf_h1; rw [if_neg (by rw [e0]; omega)]; split <;> omega
theorem rf_w3f {i k : Int32} (e : i.toInt = 1 + 3 * k.toInt + 1) (B : sf_B 0 7 k) : rf_t0 3 i.toNatClampNeg ≤ 0 ∧ 9 ≤ rf_t1 3 i.toNatClampNeg := by
  have k1 := B.1; have k2 := B.2
  have e0 : i.toNatClampNeg = i.toInt.toNat := rfl
  refine ⟨?_, ?_⟩
  · show rf_h0 i.toNatClampNeg ≤ 0
    unfold rf_h0; rw [if_neg (by rw [e0]; omega)]; split <;> omega
  · show 9 ≤ rf_h1 i.toNatClampNeg
    unfold rf_h1; rw [if_neg (by rw [e0]; omega), if_neg (by rw [e0]; omega)]; omega
theorem rf_w3o {i k : Int32} (e : i.toInt = 1 + 3 * k.toInt + 2) (B : sf_B 0 7 k) : rf_t0 3 i.toNatClampNeg ≤ -1 ∧ 9 ≤ rf_t1 3 i.toNatClampNeg := by
  have k1 := B.1; have k2 := B.2
  have e0 : i.toNatClampNeg = i.toInt.toNat := rfl
  refine ⟨?_, ?_⟩
  · show rf_h0 i.toNatClampNeg ≤ -1
    unfold rf_h0; rw [if_neg (by rw [e0]; omega), if_pos (by rw [e0]; omega)]; omega
  · show 9 ≤ rf_h1 i.toNatClampNeg
    unfold rf_h1; rw [if_neg (by rw [e0]; omega), if_neg (by rw [e0]; omega)]; omega
theorem rf_w0n {i k : Int32} (e : i.toInt = 90 + k.toInt) (B : sf_B 0 9 k) : rf_t0 0 i.toNatClampNeg ≤ -2147483648 ∧ 2147483647 ≤ rf_t1 0 i.toNatClampNeg := by
  have k1 := B.1; have k2 := B.2
  have e0 : i.toNatClampNeg = i.toInt.toNat := rfl
  refine ⟨Int.le_of_eq (if_neg (by rw [e0]; omega)), Int.le_of_eq (rf_l1n (by rw [e0]; omega)).symm⟩
theorem rf_bd.self {s : Nat} {f : Nat → Int32} (h : rf_bd s f) {k x : Int32} (e : f k.toNatClampNeg = x) : rf_bd s (upd f k.toNatClampNeg x) := by
  intro j hj
  unfold upd
  by_cases e2 : j = k.toNatClampNeg
  · rw [if_pos e2, ← e, ← e2]; exact h j hj
  · rw [if_neg e2]; exact h j hj
