theorem sf_and {x y : Int32} (hy : 0 ≤ y.toInt) : 0 ≤ (x &&& y).toInt ∧ (x &&& y).toInt ≤ y.toInt := by
  have e1 : (x &&& y).toInt = (x.toBitVec &&& y.toBitVec).toInt := rfl
  have e2 : y.toInt = y.toBitVec.toInt := rfl
  rw [e2] at hy
  rw [e1, e2]
  have hl : (x.toBitVec &&& y.toBitVec).toNat ≤ y.toBitVec.toNat := by rw [BitVec.toNat_and]; exact Nat.and_le_right
  have hy2 := y.toBitVec.isLt
  rw [BitVec.toInt_eq_toNat_cond] at hy
  have hc : 2 * y.toBitVec.toNat < 2 ^ 32 := by
    by_cases h : 2 * y.toBitVec.toNat < 2 ^ 32
    · exact h
    · rw [if_neg h] at hy; omega
  rw [BitVec.toInt_eq_toNat_cond, BitVec.toInt_eq_toNat_cond, if_pos hc, if_pos (by omega)]
  omega
theorem sf_div {a b c e : Int} {x y : Int32} (hx : sf_B a b x) (hy : sf_B c e y) (ha : 0 ≤ a) (hc : 1 ≤ c) : (x / y).toInt = x.toInt / y.toInt ∧ sf_B 0 (b / c) (x / y) := by
  obtain ⟨x1, x2⟩ := hx
  obtain ⟨y1, y2⟩ := hy
  have e1 : (x / y).toInt = x.toInt / y.toInt := by
    rw [Jvm.Kit.i32_div (by omega), Int.tdiv_eq_ediv_of_nonneg (by omega)]
  have l0 : 0 ≤ x.toInt / y.toInt := Int.ediv_nonneg (by omega) (by omega)
  have l1 : x.toInt / y.toInt ≤ b / c := by
    refine Int.le_trans (Int.ediv_le_ediv (by omega) x2) ?_
    have hb : 0 ≤ b := by omega
    refine (Int.le_ediv_iff_mul_le (by omega)).mpr ?_
    have l3 : 0 ≤ b / y.toInt := Int.ediv_nonneg hb (by omega)
    have l4 : b / y.toInt * c ≤ b / y.toInt * y.toInt := Int.mul_le_mul_of_nonneg_left y1 l3
    have l5 : b / y.toInt * y.toInt ≤ b := Int.ediv_mul_le b (by omega)
    omega
  exact ⟨e1, by unfold sf_B; rw [e1]; exact ⟨l0, l1⟩⟩
theorem sf_rem {a b c e : Int} {x y : Int32} (hx : sf_B a b x) (hy : sf_B c e y) (ha : 0 ≤ a) (hc : 1 ≤ c) : (x - x / y * y).toInt = x.toInt % y.toInt ∧ sf_B 0 (e - 1) (x - x / y * y) := by
  obtain ⟨d1, -⟩ := sf_div hx hy ha hc
  obtain ⟨x1, x2⟩ := hx
  obtain ⟨y1, y2⟩ := hy
  have hxl := x.toInt_lt
  have l0 : 0 ≤ x.toInt / y.toInt := Int.ediv_nonneg (by omega) (by omega)
  have l5 : x.toInt / y.toInt * y.toInt ≤ x.toInt := Int.ediv_mul_le _ (by omega)
  have l6 : 0 ≤ x.toInt / y.toInt * y.toInt := Int.mul_nonneg l0 (by omega)
  have e2 : (x / y * y).toInt = x.toInt / y.toInt * y.toInt := by rw [Jvm.Kit.i32_mul (by rw [d1]; omega) (by rw [d1]; omega), d1]
  have e3 : (x - x / y * y).toInt = x.toInt - x.toInt / y.toInt * y.toInt := by rw [Jvm.Kit.i32_sub (by rw [e2]; omega) (by rw [e2]; omega), e2]
  have e4 : x.toInt - x.toInt / y.toInt * y.toInt = x.toInt % y.toInt := by
    have := Int.emod_add_mul_ediv x.toInt y.toInt
    rw [Int.mul_comm] at this
    omega
  have m0 := Int.emod_nonneg x.toInt (show y.toInt ≠ 0 by omega)
  have m1 := Int.emod_lt_of_pos x.toInt (show 0 < y.toInt by omega)
  refine ⟨by rw [e3, e4], ?_⟩
  unfold sf_B; rw [e3, e4]; omega
section SFR
variable {d mid pc pc' : Nat} {ls st : List Value} {h : pm_H} {Q : Option Value → pm_H → Prop} {q : pm_M} {l : List (Nat × Instr × Nat)} {L : Nat} {x y : Int32} {a b c e : Int}
theorem sf_R_iadd (hM : pm_Mt mid q l) (hf : pm_find l pc = some (.iadd, L)) (hp : pc + 1 = pc') (hx : sf_B a b x) (hy : sf_B c e y) (lo : -2147483648 ≤ a + c) (up : b + e ≤ 2147483647) (k : ∀ z : Int32, z.toInt = x.toInt + y.toInt → sf_B (a + c) (b + e) z → pm_R d mid pc' ls (.int z :: st) h Q) : pm_R d mid pc ls (.int y :: .int x :: st) h Q :=
  pm_R_op hM hf (st' := .int (x + y) :: st) rfl hp (k _ (Jvm.Kit.i32_add (by have := hx.1; have := hy.1; omega) (by have := hx.2; have := hy.2; omega)) (sf_add hx hy lo up))
theorem sf_R_isub (hM : pm_Mt mid q l) (hf : pm_find l pc = some (.isub, L)) (hp : pc + 1 = pc') (hx : sf_B a b x) (hy : sf_B c e y) (lo : -2147483648 ≤ a - e) (up : b - c ≤ 2147483647) (k : ∀ z : Int32, z.toInt = x.toInt - y.toInt → sf_B (a - e) (b - c) z → pm_R d mid pc' ls (.int z :: st) h Q) : pm_R d mid pc ls (.int y :: .int x :: st) h Q :=
  pm_R_op hM hf (st' := .int (x - y) :: st) rfl hp (k _ (Jvm.Kit.i32_sub (by have := hx.1; have := hy.2; omega) (by have := hx.2; have := hy.1; omega)) (sf_sub hx hy lo up))
theorem sf_R_imul (hM : pm_Mt mid q l) (hf : pm_find l pc = some (.imul, L)) (hp : pc + 1 = pc') (hx : sf_B a b x) (hy : sf_B c e y) (ha : 0 ≤ a) (hc : 0 ≤ c) (up : b * e ≤ 2147483647) (k : ∀ z : Int32, z.toInt = x.toInt * y.toInt → sf_B (a * c) (b * e) z → pm_R d mid pc' ls (.int z :: st) h Q) : pm_R d mid pc ls (.int y :: .int x :: st) h Q := by
  have l1 : 0 ≤ x.toInt * y.toInt := Int.mul_nonneg (Int.le_trans ha hx.1) (Int.le_trans hc hy.1)
  have l2 : x.toInt * y.toInt ≤ b * e := Int.mul_le_mul hx.2 hy.2 (Int.le_trans hc hy.1) (Int.le_trans (Int.le_trans ha hx.1) hx.2)
  exact pm_R_op hM hf (st' := .int (x * y) :: st) rfl hp (k _ (Jvm.Kit.i32_mul (by omega) (by omega)) (sf_mul hx hy ha hc up))
theorem sf_R_iand (hM : pm_Mt mid q l) (hf : pm_find l pc = some (.iand, L)) (hp : pc + 1 = pc') (hy : sf_B c e y) (hc : 0 ≤ c) (k : ∀ z : Int32, sf_B 0 e z → pm_R d mid pc' ls (.int z :: st) h Q) : pm_R d mid pc ls (.int y :: .int x :: st) h Q := by
  have h1 := sf_and (x := x) (y := y) (Int.le_trans hc hy.1)
  exact pm_R_op hM hf (st' := .int (x &&& y) :: st) rfl hp (k _ ⟨h1.1, Int.le_trans h1.2 hy.2⟩)
theorem sf_R_idiv (hM : pm_Mt mid q l) (hf : pm_find l pc = some (.idiv, L)) (hp : pc + 1 = pc') (hx : sf_B a b x) (hy : sf_B c e y) (ha : 0 ≤ a) (hc : 1 ≤ c) (k : ∀ z : Int32, z.toInt = x.toInt / y.toInt → sf_B 0 (b / c) z → pm_R d mid pc' ls (.int z :: st) h Q) : pm_R d mid pc ls (.int y :: .int x :: st) h Q := by
  have hy0 : ¬ y = 0 := fun z => by have := hy.1; rw [z] at this; have e0 : (0 : Int32).toInt = 0 := rfl; omega
  obtain ⟨d1, d2⟩ := sf_div hx hy ha hc
  exact pm_R_op hM hf (st' := .int (x / y) :: st) (if_neg hy0) hp (k _ d1 d2)
theorem sf_R_irem (hM : pm_Mt mid q l) (hf : pm_find l pc = some (.irem, L)) (hp : pc + 1 = pc') (hx : sf_B a b x) (hy : sf_B c e y) (ha : 0 ≤ a) (hc : 1 ≤ c) (k : ∀ z : Int32, z.toInt = x.toInt % y.toInt → sf_B 0 (e - 1) z → pm_R d mid pc' ls (.int z :: st) h Q) : pm_R d mid pc ls (.int y :: .int x :: st) h Q := by
  have hy0 : ¬ y = 0 := fun z => by have := hy.1; rw [z] at this; have e0 : (0 : Int32).toInt = 0 := rfl; omega
  obtain ⟨d1, d2⟩ := sf_rem hx hy ha hc
  exact pm_R_op hM hf (st' := .int (x - x / y * y) :: st) (if_neg hy0) hp (k _ d1 d2)
/-- any op of the stack that hands over one int, of which nothing is said -/
theorem sf_R_iany (hM : pm_Mt mid q l) {i : Instr} (hf : pm_find l pc = some (i, L)) {w : Int32} {st0 : List Value} (ho : pm_op i st0 = some (.int w :: st)) (hp : pc + pm_len i = pc') (k : ∀ z : Int32, pm_R d mid pc' ls (.int z :: st) h Q) : pm_R d mid pc ls st0 h Q :=
  pm_R_op hM hf (st' := .int w :: st) ho hp (k _)
theorem sf_R_lany (hM : pm_Mt mid q l) {i : Instr} (hf : pm_find l pc = some (i, L)) {w : Int64} {st0 : List Value} (ho : pm_op i st0 = some (.long w :: st)) (hp : pc + pm_len i = pc') (k : ∀ z : Int64, pm_R d mid pc' ls (.long z :: st) h Q) : pm_R d mid pc ls st0 h Q :=
  pm_R_op hM hf (st' := .long w :: st) ho hp (k _)
end SFR
