/-! INTERVALS: an int between two literals -/
def sf_B (lo hi : Int) (x : Int32) : Prop := lo ≤ x.toInt ∧ x.toInt ≤ hi
theorem sf_any (x : Int32) : sf_B (-2147483648) 2147483647 x := by
  have a := x.toInt_lt; have b := x.le_toInt
  unfold sf_B; omega
theorem sf_weak {a b c d : Int} {x : Int32} (h : sf_B a b x) (h1 : c ≤ a) (h2 : b ≤ d) : sf_B c d x := ⟨Int.le_trans h1 h.1, Int.le_trans h.2 h2⟩
theorem sf_add {a b c d : Int} {x y : Int32} (hx : sf_B a b x) (hy : sf_B c d y) (l : -2147483648 ≤ a + c) (u : b + d ≤ 2147483647) : sf_B (a + c) (b + d) (x + y) := by
  obtain ⟨x1, x2⟩ := hx
  obtain ⟨y1, y2⟩ := hy
  have e : (x + y).toInt = x.toInt + y.toInt := Jvm.Kit.i32_add (by omega) (by omega)
  unfold sf_B; omega
theorem sf_sub {a b c d : Int} {x y : Int32} (hx : sf_B a b x) (hy : sf_B c d y) (l : -2147483648 ≤ a - d) (u : b - c ≤ 2147483647) : sf_B (a - d) (b - c) (x - y) := by
  obtain ⟨x1, x2⟩ := hx
  obtain ⟨y1, y2⟩ := hy
  have e : (x - y).toInt = x.toInt - y.toInt := Jvm.Kit.i32_sub (by omega) (by omega)
  unfold sf_B; omega
/-- both not below 0 -/
theorem sf_mul {a b c d : Int} {x y : Int32} (hx : sf_B a b x) (hy : sf_B c d y) (ha : 0 ≤ a) (hc : 0 ≤ c) (u : b * d ≤ 2147483647) : sf_B (a * c) (b * d) (x * y) := by
  obtain ⟨x1, x2⟩ := hx
  obtain ⟨y1, y2⟩ := hy
  have l1 : a * c ≤ x.toInt * y.toInt := Int.mul_le_mul x1 y1 hc (Int.le_trans ha x1)
  have l2 : x.toInt * y.toInt ≤ b * d := Int.mul_le_mul x2 y2 (Int.le_trans hc y1) (Int.le_trans (Int.le_trans ha x1) x2)
  have l0 : 0 ≤ a * c := Int.mul_nonneg ha hc
  have e : (x * y).toInt = x.toInt * y.toInt := Jvm.Kit.i32_mul (by omega) (by omega)
  unfold sf_B; rw [e]; exact ⟨l1, l2⟩
theorem sf_in {a b : Int} {x : Int32} {n : Nat} (hx : sf_B a b x) (ha : 0 ≤ a) (hb : b < n) : pm_in x n = true := by
  obtain ⟨x1, x2⟩ := hx
  have h0 : 0 ≤ x.toInt := Int.le_trans ha x1
  simp only [pm_in, Bool.and_eq_true, decide_eq_true_eq]
  refine ⟨Jvm.Kit.i32_nonneg.mpr h0, ?_⟩
  have e : x.toNatClampNeg = x.toInt.toNat := rfl
  rw [e]; omega
theorem sf_ltL {a b c d : Int} {x y : Int32} (h : x < y) (hx : sf_B a b x) (hy : sf_B c d y) : sf_B a (d - 1) x := by
  have := Int32.lt_iff_toInt_lt.mp h
  obtain ⟨x1, x2⟩ := hx; obtain ⟨y1, y2⟩ := hy
  unfold sf_B; omega
theorem sf_ltR {a b c d : Int} {x y : Int32} (h : x < y) (hx : sf_B a b x) (hy : sf_B c d y) : sf_B (a + 1) d y := by
  have := Int32.lt_iff_toInt_lt.mp h
  obtain ⟨x1, x2⟩ := hx; obtain ⟨y1, y2⟩ := hy
  unfold sf_B; omega
theorem sf_leL {a b c d : Int} {x y : Int32} (h : x ≤ y) (hx : sf_B a b x) (hy : sf_B c d y) : sf_B a d x := by
  have := Int32.le_iff_toInt_le.mp h
  obtain ⟨x1, x2⟩ := hx; obtain ⟨y1, y2⟩ := hy
  unfold sf_B; omega
theorem sf_leR {a b c d : Int} {x y : Int32} (h : x ≤ y) (hx : sf_B a b x) (hy : sf_B c d y) : sf_B a d y := by
  have := Int32.le_iff_toInt_le.mp h
  obtain ⟨x1, x2⟩ := hx; obtain ⟨y1, y2⟩ := hy
  unfold sf_B; omega
theorem sf_neLo {a b : Int} {x y : Int32} (h : ¬ x = y) (hy : y.toInt = a) (hx : sf_B a b x) : sf_B (a + 1) b x := by
  obtain ⟨x1, x2⟩ := hx
  have : x.toInt ≠ y.toInt := fun e => h (Int32.toInt_inj.mp e)
  unfold sf_B; omega
theorem sf_neHi {a b : Int} {x y : Int32} (h : ¬ x = y) (hy : y.toInt = b) (hx : sf_B a b x) : sf_B a (b - 1) x := by
  obtain ⟨x1, x2⟩ := hx
  have : x.toInt ≠ y.toInt := fun e => h (Int32.toInt_inj.mp e)
  unfold sf_B; omega
theorem sf_upd {a b : Int} {f : Nat → Int32} (h : ∀ j, sf_B a b (f j)) {v : Int32} (hv : sf_B a b v) (k : Nat) : ∀ j, sf_B a b (upd f k v j) := by
  intro j
  unfold upd
  split
  · exact hv
  · exact h j
