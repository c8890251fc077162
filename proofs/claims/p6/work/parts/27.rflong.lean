theorem lf_toInt_0 : (0 : Int64).toInt = 0 := by decide +kernel
theorem lf_leT {a b c e : Int} {x : Int64} {y : Int32} (h : x.toInt ≤ y.toInt) (Bx : lf_B a b x) (By : sf_B c e y) : lf_B a e x := by
  have h1 := Bx.1; have h2 := By.2
  unfold lf_B; omega
section LFR
variable {d mid pc pc' : Nat} {ls st : List Value} {h : pm_H} {Q : Option Value → pm_H → Prop} {q : pm_M} {l : List (Nat × Instr × Nat)} {L : Nat} {a b c e : Int}
theorem sf_R_ladd (hM : pm_Mt mid q l) {x y : Int64} (hf : pm_find l pc = some (.ladd, L)) (hp : pc + 1 = pc') (hx : lf_B a b x) (hy : lf_B c e y) (lo : -9223372036854775808 ≤ a + c) (up : b + e ≤ 9223372036854775807) (k : ∀ z : Int64, z.toInt = x.toInt + y.toInt → lf_B (a + c) (b + e) z → pm_R d mid pc' ls (.long z :: st) h Q) : pm_R d mid pc ls (.long y :: .long x :: st) h Q := by
  have h1 := hx.1; have h2 := hx.2; have h3 := hy.1; have h4 := hy.2
  have e1 : (x + y).toInt = x.toInt + y.toInt := Jvm.Kit.i64_add (by omega) (by omega)
  exact pm_R_op hM hf (st' := .long (x + y) :: st) rfl hp (k _ e1 ⟨by omega, by omega⟩)
theorem sf_R_lsub (hM : pm_Mt mid q l) {x y : Int64} (hf : pm_find l pc = some (.lsub, L)) (hp : pc + 1 = pc') (hx : lf_B a b x) (hy : lf_B c e y) (lo : -9223372036854775808 ≤ a - e) (up : b - c ≤ 9223372036854775807) (k : ∀ z : Int64, z.toInt = x.toInt - y.toInt → lf_B (a - e) (b - c) z → pm_R d mid pc' ls (.long z :: st) h Q) : pm_R d mid pc ls (.long y :: .long x :: st) h Q := by
  have h1 := hx.1; have h2 := hx.2; have h3 := hy.1; have h4 := hy.2
  have e1 : (x - y).toInt = x.toInt - y.toInt := Jvm.Kit.i64_sub (by omega) (by omega)
  exact pm_R_op hM hf (st' := .long (x - y) :: st) rfl hp (k _ e1 ⟨by omega, by omega⟩)
theorem sf_R_i2l (hM : pm_Mt mid q l) {x : Int32} (hf : pm_find l pc = some (.i2l, L)) (hp : pc + 1 = pc') (hx : sf_B a b x) (k : ∀ z : Int64, z.toInt = x.toInt → lf_B a b z → pm_R d mid pc' ls (.long z :: st) h Q) : pm_R d mid pc ls (.int x :: st) h Q := by
  have e1 : x.toInt64.toInt = x.toInt := Int32.toInt_toInt64 x
  exact pm_R_op hM hf (st' := .long x.toInt64 :: st) rfl hp (k _ e1 ⟨by rw [e1]; exact hx.1, by rw [e1]; exact hx.2⟩)
theorem sf_R_lsubN (hM : pm_Mt mid q l) {x y : Int64} (hf : pm_find l pc = some (.lsub, L)) (hp : pc + 1 = pc') (hx : lf_B a b x) (hy : lf_B c e y) (hc : 0 ≤ c) (hle : y.toInt ≤ x.toInt) (k : ∀ z : Int64, z.toInt = x.toInt - y.toInt → lf_B 0 b z → pm_R d mid pc' ls (.long z :: st) h Q) : pm_R d mid pc ls (.long y :: .long x :: st) h Q := by
  have h2 := hx.2; have h3 := hy.1
  have h5 := x.toInt_lt
  have e1 : (x - y).toInt = x.toInt - y.toInt := Jvm.Kit.i64_sub (by omega) (by omega)
  exact pm_R_op hM hf (st' := .long (x - y) :: st) rfl hp (k _ e1 ⟨by omega, by omega⟩)
theorem sf_R_ldiv (hM : pm_Mt mid q l) {x y : Int64} (hf : pm_find l pc = some (.ldiv, L)) (hp : pc + 1 = pc') (hx : lf_B a b x) (hy : lf_B c e y) (ha : 0 ≤ a) (hc : 1 ≤ c) (k : ∀ z : Int64, z.toInt = x.toInt / y.toInt → lf_B 0 b z → pm_R d mid pc' ls (.long z :: st) h Q) : pm_R d mid pc ls (.long y :: .long x :: st) h Q := by
  have h1 := hx.1; have h2 := hx.2; have h3 := hy.1
  have hy0 : ¬ y = 0 := fun z => by rw [z, lf_toInt_0] at h3; omega
  have e1 : (x / y).toInt = x.toInt / y.toInt := lg_ldiv_nonneg (by omega) (by omega)
  have l0 : 0 ≤ x.toInt / y.toInt := Int.ediv_nonneg (by omega) (by omega)
  have l1 : x.toInt / y.toInt ≤ x.toInt := Int.ediv_le_self _ (by omega)
  exact pm_R_op hM hf (st' := .long (x / y) :: st) (if_neg hy0) hp (k _ e1 ⟨by omega, by omega⟩)
theorem sf_R_lrem (hM : pm_Mt mid q l) {x y : Int64} (hf : pm_find l pc = some (.lrem, L)) (hp : pc + 1 = pc') (hx : lf_B a b x) (hy : lf_B c e y) (ha : 0 ≤ a) (hc : 1 ≤ c) (k : ∀ z : Int64, z.toInt = x.toInt % y.toInt → lf_B 0 (e - 1) z → pm_R d mid pc' ls (.long z :: st) h Q) : pm_R d mid pc ls (.long y :: .long x :: st) h Q := by
  have h1 := hx.1; have h2 := hx.2; have h3 := hy.1; have h4 := hy.2
  have h5 := x.toInt_lt
  have hy0 : ¬ y = 0 := fun z => by rw [z, lf_toInt_0] at h3; omega
  have e1 : (x / y).toInt = x.toInt / y.toInt := lg_ldiv_nonneg (by omega) (by omega)
  have l0 : 0 ≤ x.toInt / y.toInt := Int.ediv_nonneg (by omega) (by omega)
  have l5 : x.toInt / y.toInt * y.toInt ≤ x.toInt := Int.ediv_mul_le _ (by omega)
  have l6 : 0 ≤ x.toInt / y.toInt * y.toInt := Int.mul_nonneg l0 (by omega)
  have e2 : (x / y * y).toInt = x.toInt / y.toInt * y.toInt := by rw [Jvm.Kit.i64_mul (by rw [e1]; omega) (by rw [e1]; omega), e1]
  have e3 : (x - x / y * y).toInt = x.toInt - x.toInt / y.toInt * y.toInt := by rw [Jvm.Kit.i64_sub (by rw [e2]; omega) (by rw [e2]; omega), e2]
  have e4 : x.toInt - x.toInt / y.toInt * y.toInt = x.toInt % y.toInt := by
    have := Int.emod_add_mul_ediv x.toInt y.toInt
    rw [Int.mul_comm] at this
    omega
  have m0 := Int.emod_nonneg x.toInt (show y.toInt ≠ 0 by omega)
  have m1 := Int.emod_lt_of_pos x.toInt (show 0 < y.toInt by omega)
  exact pm_R_op hM hf (st' := .long (x - x / y * y) :: st) (if_neg hy0) hp (k _ (by rw [e3, e4]) ⟨by rw [e3, e4]; exact m0, by rw [e3, e4]; omega⟩)
end LFR
theorem lf_cmpGe {a b c e : Int} {x y : Int64} {z : Int32} (hz : z = lg_cmp x y) (hx : lf_B a b x) (hy : lf_B c e y) (h : e ≤ a) : ¬ z < 0 := by
  rw [hz]
  intro h0
  have := Int64.lt_iff_toInt_lt.mp ((lg_cmp_lt x y).mp h0)
  have h1 := hx.1; have h2 := hy.2
  omega
theorem lf_cmpLe {a b c e : Int} {x y : Int64} {z : Int32} (hz : z = lg_cmp x y) (hx : lf_B a b x) (hy : lf_B c e y) (h : b ≤ c) : ¬ 0 < z := by
  rw [hz]
  intro h0
  have := Int64.lt_iff_toInt_lt.mp ((lg_cmp_gt x y).mp h0)
  have h1 := hx.2; have h2 := hy.1
  omega
theorem lf_ge {a b : Int} {x y : Int64} {z : Int32} (hz : z = lg_cmp x y) (B : sf_B a b z) (h : 0 ≤ a) : y.toInt ≤ x.toInt := by
  have e0 : (0 : Int32).toInt = 0 := rfl
  have h0 : 0 ≤ z := Int32.le_iff_toInt_le.mpr (by rw [e0]; exact Int.le_trans h B.1)
  rw [hz] at h0
  exact Int64.le_iff_toInt_le.mp ((lg_cmp_ge x y).mp h0)
theorem lf_lt {a b : Int} {x y : Int64} {z : Int32} (hz : z = lg_cmp x y) (B : sf_B a b z) (h : b < 0) : x.toInt < y.toInt := by
  have e0 : (0 : Int32).toInt = 0 := rfl
  have h0 : z < 0 := Int32.lt_iff_toInt_lt.mpr (by rw [e0]; exact Int.lt_of_le_of_lt B.2 h)
  rw [hz] at h0
  exact Int64.lt_iff_toInt_lt.mp ((lg_cmp_lt x y).mp h0)
theorem lf_nz {a b : Int} {x : Int64} (B : lf_B a b x) (ha : 0 ≤ a) (h : ¬ x = 0) : lf_B 1 b x := by
  have h1 := B.1; have h2 := B.2
  have : x.toInt ≠ 0 := fun e => h (Int64.toInt_inj.mp (by rw [e]; exact lf_toInt_0.symm))
  unfold lf_B; omega
theorem lf_upd {a b : Int} {f : Nat → Int64} (h : ∀ j, lf_B a b (f j)) {v : Int64} (hv : lf_B a b v) (k : Nat) : ∀ j, lf_B a b (vp_updL f k v j) := by
  intro j
  unfold vp_updL
  split
  · exact hv
  · exact h j
def rf_sum (x y : Int64) : Int64 := if 1000000000000 ≤ x + y then 1000000000000 else x + y
def rf_prod (x y : Int64) : Int64 := if 0 < y ∧ 1000000000000 / y < x then 1000000000000 else rf_sum (x * y) 0
theorem lf_toInt_most : (1000000000000 : Int64).toInt = 1000000000000 := by decide +kernel
theorem rf_x213 {d : Nat} {h : pm_H} {Q : Option Value → pm_H → Prop} {a0 a1 : Int64} (K : Q (some (.long (rf_sum a0 a1))) h) : pm_R (d + 0) 213 0 [.long a0, pm_no, .long a1, pm_no] [] h Q := by
  refine pm_R_lo pm_M213 (pc' := 1) rfl rfl rfl ?_
  refine pm_R_lo pm_M213 (pc' := 2) rfl rfl rfl ?_
  refine pm_R_op pm_M213 (pc' := 3) (st' := [.long (a0 + a1)]) rfl rfl rfl ?_
  refine pm_R_ldc2 pm_M213 (pc' := 6) rfl rfl rfl ?_
  refine pm_R_op pm_M213 (pc' := 7) (st' := [.int (lg_cmp (a0 + a1) 1000000000000)]) rfl rfl rfl ?_
  refine pm_R_ifc pm_M213 (t := 16) (pc' := 10) rfl rfl rfl (fun c => ?_) (fun c => ?_)
  · have c2 : 1000000000000 ≤ a0 + a1 := (lg_cmp_ge _ _).mp c
    refine pm_R_ldc2 pm_M213 (pc' := 19) rfl rfl rfl ?_
    refine pm_R_ret pm_M213 (r := some (.long 1000000000000)) rfl rfl ?_
    unfold rf_sum at K
    rw [if_pos c2] at K
    exact K
  · have c2 : ¬ 1000000000000 ≤ a0 + a1 := fun z => c ((lg_cmp_ge _ _).mpr z)
    refine pm_R_lo pm_M213 (pc' := 11) rfl rfl rfl ?_
    refine pm_R_lo pm_M213 (pc' := 12) rfl rfl rfl ?_
    refine pm_R_op pm_M213 (pc' := 13) (st' := [.long (a0 + a1)]) rfl rfl rfl ?_
    refine pm_R_br pm_M213 (pc' := 19) rfl rfl ?_
    refine pm_R_ret pm_M213 (r := some (.long (a0 + a1))) rfl rfl ?_
    unfold rf_sum at K
    rw [if_neg c2] at K
    exact K
theorem rf_x212 {d : Nat} {h : pm_H} {Q : Option Value → pm_H → Prop} {a0 a1 : Int64} (K : Q (some (.long (rf_prod a0 a1))) h) : pm_R (d + 1) 212 0 [.long a0, pm_no, .long a1, pm_no] [] h Q := by
  have tail : ¬ (0 < a1 ∧ 1000000000000 / a1 < a0) → pm_R (d + 1) 212 22 [.long a0, pm_no, .long a1, pm_no] [] h Q := by
    intro hn
    refine pm_R_lo pm_M212 (pc' := 23) rfl rfl rfl ?_
    refine pm_R_lo pm_M212 (pc' := 24) rfl rfl rfl ?_
    refine pm_R_op pm_M212 (pc' := 25) (st' := [.long (a0 * a1)]) rfl rfl rfl ?_
    refine pm_R_op pm_M212 (pc' := 26) (st' := [.long 0, .long (a0 * a1)]) rfl rfl rfl ?_
    refine pm_R_cs pm_M212 (pc' := 29) (ra := [.long 0, .long (a0 * a1)]) (rest := []) (ls' := [.long (a0 * a1), pm_no, .long 0, pm_no]) rfl rfl (Or.inl rfl) pm_M213 rfl rfl (Nat.le_of_ble_eq_true rfl) rfl rfl ?_
    refine rf_x213 (d := d) ?_
    show pm_R _ 212 29 _ [.long (rf_sum (a0 * a1) 0)] _ _
    refine pm_R_ret pm_M212 (r := some (.long (rf_sum (a0 * a1) 0))) rfl rfl ?_
    unfold rf_prod at K
    rw [if_neg hn] at K
    exact K
  refine pm_R_lo pm_M212 (pc' := 1) rfl rfl rfl ?_
  refine pm_R_op pm_M212 (pc' := 2) (st' := [.long 0, .long a1]) rfl rfl rfl ?_
  refine pm_R_op pm_M212 (pc' := 3) (st' := [.int (lg_cmp a1 0)]) rfl rfl rfl ?_
  refine pm_R_ifc pm_M212 (t := 22) (pc' := 6) rfl rfl rfl (fun c => ?_) (fun c => ?_)
  · have c2 : a1 ≤ 0 := (lg_cmp_le _ _).mp c
    exact tail (fun z => lg_le_not_lt c2 z.1)
  · have c2 : 0 < a1 := by
      have c3 : ¬ a1 ≤ 0 := fun z => c ((lg_cmp_le _ _).mpr z)
      rcases lg_tri a1 0 with z | z | z
      · exact absurd (Int64.le_of_lt z) c3
      · exact absurd (Int64.le_of_eq z) c3
      · exact z
    have hne : ¬ a1 = 0 := fun z => lg_lt_ne c2 z.symm
    refine pm_R_lo pm_M212 (pc' := 7) rfl rfl rfl ?_
    refine pm_R_ldc2 pm_M212 (pc' := 10) rfl rfl rfl ?_
    refine pm_R_lo pm_M212 (pc' := 11) rfl rfl rfl ?_
    refine pm_R_op pm_M212 (pc' := 12) (st' := [.long (1000000000000 / a1), .long a0]) rfl (if_neg hne) rfl ?_
    refine pm_R_op pm_M212 (pc' := 13) (st' := [.int (lg_cmp a0 (1000000000000 / a1))]) rfl rfl rfl ?_
    refine pm_R_ifc pm_M212 (t := 22) (pc' := 16) rfl rfl rfl (fun c => ?_) (fun c => ?_)
    · have c4 : a0 ≤ 1000000000000 / a1 := (lg_cmp_le _ _).mp c
      exact tail (fun z => lg_le_not_lt c4 z.2)
    · have c4 : 1000000000000 / a1 < a0 := by
        have c3 : ¬ a0 ≤ 1000000000000 / a1 := fun z => c ((lg_cmp_le _ _).mpr z)
        rcases lg_tri a0 (1000000000000 / a1) with z | z | z
        · exact absurd (Int64.le_of_lt z) c3
        · exact absurd (Int64.le_of_eq z) c3
        · exact z
      refine pm_R_ldc2 pm_M212 (pc' := 19) rfl rfl rfl ?_
      refine pm_R_br pm_M212 (pc' := 29) rfl rfl ?_
      refine pm_R_ret pm_M212 (r := some (.long 1000000000000)) rfl rfl ?_
      unfold rf_prod at K
      rw [if_pos ⟨c2, c4⟩] at K
      exact K
theorem rf_sum_B {x y : Int64} (hx : lf_B 0 1000000000000 x) (hy : lf_B 0 1000000000000 y) : (rf_sum x y).toInt = min (x.toInt + y.toInt) 1000000000000 ∧ lf_B 0 1000000000000 (rf_sum x y) := by
  have h1 := hx.1; have h2 := hx.2; have h3 := hy.1; have h4 := hy.2
  have e1 : (x + y).toInt = x.toInt + y.toInt := Jvm.Kit.i64_add (by omega) (by omega)
  have e2 := lf_toInt_most
  unfold rf_sum lf_B
  by_cases hc : 1000000000000 ≤ x + y
  · rw [if_pos hc, e2]
    have := Int64.le_iff_toInt_le.mp hc
    rw [e1, e2] at this
    omega
  · rw [if_neg hc, e1]
    have : ¬ (1000000000000 : Int64).toInt ≤ (x + y).toInt := fun z => hc (Int64.le_iff_toInt_le.mpr z)
    rw [e1, e2] at this
    omega
theorem rf_prod_B {x y : Int64} (hx : lf_B 0 1000000000000 x) (hy : lf_B 0 1000000000000 y) : (rf_prod x y).toInt = min (x.toInt * y.toInt) 1000000000000 ∧ lf_B 0 1000000000000 (rf_prod x y) := by
  have h1 := hx.1; have h2 := hx.2; have h3 := hy.1; have h4 := hy.2
  have e2 := lf_toInt_most
  have e0 := lf_toInt_0
  have hm : 0 ≤ x.toInt * y.toInt := Int.mul_nonneg h1 h3
  unfold rf_prod
  by_cases hc : 0 < y ∧ 1000000000000 / y < x
  · rw [if_pos hc]
    have y0 := Int64.lt_iff_toInt_lt.mp hc.1
    have d1 := Int64.lt_iff_toInt_lt.mp hc.2
    rw [e0] at y0
    rw [lg_ldiv_nonneg (by rw [e2]; omega) y0, e2] at d1
    have d2 : 1000000000000 < x.toInt * y.toInt := by
      have := Int.lt_mul_of_ediv_lt y0 d1
      exact this
    refine ⟨by rw [e2]; omega, by unfold lf_B; rw [e2]; omega⟩
  · rw [if_neg hc]
    have d2 : x.toInt * y.toInt ≤ 1000000000000 := by
      by_cases y0 : 0 < y
      · have d1 : ¬ 1000000000000 / y < x := fun z => hc ⟨y0, z⟩
        have y1 := Int64.lt_iff_toInt_lt.mp y0
        rw [e0] at y1
        have d3 : ¬ ((1000000000000 : Int64) / y).toInt < x.toInt := fun z => d1 (Int64.lt_iff_toInt_lt.mpr z)
        rw [lg_ldiv_nonneg (by rw [e2]; omega) y1, e2] at d3
        exact (Int.le_ediv_iff_mul_le y1).mp (by omega)
      · have y1 : ¬ (0 : Int64).toInt < y.toInt := fun z => y0 (Int64.lt_iff_toInt_lt.mpr z)
        rw [e0] at y1
        have y2 : y.toInt = 0 := by omega
        rw [y2]; omega
    have e1 : (x * y).toInt = x.toInt * y.toInt := Jvm.Kit.i64_mul (by omega) (by omega)
    have hB := rf_sum_B (x := x * y) (y := 0) ⟨by rw [e1]; exact hm, by rw [e1]; exact d2⟩ ⟨by rw [e0]; omega, by rw [e0]; omega⟩
    refine ⟨?_, hB.2⟩
    rw [hB.1, e1, e0]
    omega
theorem rf_c213 {d : Nat} {h : pm_H} {Q : Option Value → pm_H → Prop} {a0 a1 : Int64} (Ba0 : lf_B 0 1000000000000 a0) (Ba1 : lf_B 0 1000000000000 a1) (K : ∀ r : Int64, lf_B 0 1000000000000 r → Q (some (.long r)) h) : pm_R (d + 0) 213 0 [.long a0, pm_no, .long a1, pm_no] [] h Q := rf_x213 (K _ (rf_sum_B Ba0 Ba1).2)
theorem rf_c212 {d : Nat} {h : pm_H} {Q : Option Value → pm_H → Prop} {a0 a1 : Int64} (Ba0 : lf_B 0 1000000000000 a0) (Ba1 : lf_B 0 1000000000000 a1) (K : ∀ r : Int64, (a1 = 0 → r.toInt = 0) → lf_B 0 1000000000000 r → Q (some (.long r)) h) : pm_R (d + 1) 212 0 [.long a0, pm_no, .long a1, pm_no] [] h Q := rf_x212 (K _ (fun z => by have := (rf_prod_B Ba0 Ba1).1; rw [z] at this ⊢; rw [this, lf_toInt_0, Int.mul_zero]; rfl) (rf_prod_B Ba0 Ba1).2)
theorem rf_u213 {d : Nat} {h : pm_H} {Q : Option Value → pm_H → Prop} {a0 a1 : Int64} (K : ∀ r : Int64, Q (some (.long r)) h) : pm_R (d + 0) 213 0 [.long a0, pm_no, .long a1, pm_no] [] h Q := rf_x213 (K _)
theorem rf_u212 {d : Nat} {h : pm_H} {Q : Option Value → pm_H → Prop} {a0 a1 : Int64} (K : ∀ r : Int64, Q (some (.long r)) h) : pm_R (d + 1) 212 0 [.long a0, pm_no, .long a1, pm_no] [] h Q := rf_x212 (K _)
theorem lf_cmpGt {a b c e : Int} {x y : Int64} {z : Int32} (hz : z = lg_cmp x y) (hx : lf_B a b x) (hy : lf_B c e y) (h : e < a) : sf_B 1 2147483647 z := by
  have h1 := hx.1; have h2 := hy.2
  have h0 : 0 < z := by rw [hz]; exact (lg_cmp_gt x y).mpr (Int64.lt_iff_toInt_lt.mpr (by omega))
  have := Int32.lt_iff_toInt_lt.mp h0
  have e0 : (0 : Int32).toInt = 0 := rfl
  have h5 := z.toInt_lt
  unfold sf_B; omega
theorem lf_cmpLt {a b c e : Int} {x y : Int64} {z : Int32} (hz : z = lg_cmp x y) (hx : lf_B a b x) (hy : lf_B c e y) (h : b < c) : sf_B (-2147483648) (-1) z := by
  have h1 := hx.2; have h2 := hy.1
  have h0 : z < 0 := by rw [hz]; exact (lg_cmp_lt x y).mpr (Int64.lt_iff_toInt_lt.mpr (by omega))
  have := Int32.lt_iff_toInt_lt.mp h0
  have e0 : (0 : Int32).toInt = 0 := rfl
  have h5 := z.le_toInt
  unfold sf_B; omega
theorem lf_cmpEq {a : Int} {x y : Int64} {z : Int32} (hz : z = lg_cmp x y) (hx : lf_B a a x) (hy : lf_B a a y) : sf_B 0 0 z := by
  have h1 := hx.1; have h2 := hx.2; have h3 := hy.1; have h4 := hy.2
  have : x = y := Int64.toInt_inj.mp (by omega)
  subst this
  rw [(lg_cmp_eq x x).mpr rfl] at hz
  subst hz
  exact ⟨by decide, by decide⟩
theorem lf_eqB {a b : Int} {x y : Int64} {z : Int32} (hz : z = lg_cmp x y) (B : sf_B 0 0 z) (hy : lf_B a b y) : lf_B a b x := by
  have h0 : z = 0 := by
    refine Int32.toInt_inj.mp ?_
    have e0 : (0 : Int32).toInt = 0 := rfl
    have h1 := B.1; have h2 := B.2
    omega
  rw [hz] at h0
  rw [(lg_cmp_eq x y).mp h0]
  exact hy
