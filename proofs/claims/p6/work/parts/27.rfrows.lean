/-! ROWS OF A WALK WITH INTERVALS, over the reference's cells -/
theorem pm_ret_i (v : Int32) : pm_ret (some .int) .ireturn [.int v] = some (some (.int v)) := by
  simp [pm_ret, narrow]
theorem pm_st1_g {ls : List Value} {k : Nat} {v w : Value} (hl : k + 1 < ls.length) (hv : ls[k]? = some v) (hc : v.category = 1) : pm_st1 ls (k + 1) w = some (ls.set (k + 1) w) := by
  unfold pm_st1
  rw [if_pos hl]
  have e : pm_kill ls (k + 1) = ls := by
    show (match ls[k]? with | some v => if v.category = 2 then ls.set k pm_no else ls | none => ls) = ls
    rw [hv]
    show (if v.category = 2 then ls.set k pm_no else ls) = ls
    rw [if_neg (by omega)]
  rw [e]
theorem sf_nlt {a b c e : Int} {x y : Int32} (hx : sf_B a b x) (hy : sf_B c e y) (h : e ≤ a) : ¬ x < y := by
  intro hl
  have := Int32.lt_iff_toInt_lt.mp hl
  have h1 := hx.1; have h2 := hy.2
  omega
theorem sf_nle {a b c e : Int} {x y : Int32} (hx : sf_B a b x) (hy : sf_B c e y) (h : e < a) : ¬ x ≤ y := by
  intro hl
  have := Int32.le_iff_toInt_le.mp hl
  have h1 := hx.1; have h2 := hy.2
  omega
theorem sf_neq1 {a b c e : Int} {x y : Int32} (hx : sf_B a b x) (hy : sf_B c e y) (h : e < a) : ¬ x = y := by
  intro hl
  subst hl
  have h1 := hx.1; have h2 := hy.2
  omega
theorem sf_neq2 {a b c e : Int} {x y : Int32} (hx : sf_B a b x) (hy : sf_B c e y) (h : b < c) : ¬ x = y := by
  intro hl
  subst hl
  have h1 := hx.2; have h2 := hy.1
  omega
/-- two numbers that are both one -/
theorem sf_pt2 {a : Int} {x y : Int32} (hx : sf_B a a x) (hy : sf_B a a y) : x = y := by
  refine Int32.toInt_inj.mp ?_
  have h1 := hx.1; have h2 := hx.2; have h3 := hy.1; have h4 := hy.2
  omega
theorem sf_eqL {c e : Int} {x y : Int32} (h : x = y) (hy : sf_B c e y) : sf_B c e x := by rw [h]; exact hy
theorem sf_eqR {c e : Int} {x y : Int32} (h : x = y) (hx : sf_B c e x) : sf_B c e y := by rw [← h]; exact hx
theorem sf_neL0 {a b : Int} {x y : Int32} (h : ¬ x = y) (hy : sf_B a a y) (hx : sf_B a b x) : sf_B (a + 1) b x := sf_neLo h (by have h3 := hy.1; have h4 := hy.2; omega) hx
theorem sf_neH0 {a b : Int} {x y : Int32} (h : ¬ x = y) (hy : sf_B b b y) (hx : sf_B a b x) : sf_B a (b - 1) x := sf_neHi h (by have h3 := hy.1; have h4 := hy.2; omega) hx
theorem sf_up {a b c t : Int} {x z : Int32} {N : Nat} (hN : (t - x.toInt).toNat = N) (e : z.toInt = x.toInt + c) (B : sf_B a b x) (hb : b < t) (hc : 0 < c) : (t - z.toInt).toNat < N := by
  have := B.2
  omega
theorem sf_dn {a b c t : Int} {x z : Int32} {N : Nat} (hN : (x.toInt - t).toNat = N) (e : z.toInt = x.toInt + c) (B : sf_B a b x) (hb : t < a) (hc : c < 0) : (z.toInt - t).toNat < N := by
  have := B.1
  omega
theorem lg_cmp_self (x : Int64) : lg_cmp x x = 0 := by
  unfold lg_cmp
  simp
theorem sf_lneA {a b : Int} {x y : Int64} {z : Int32} (e : z = lg_cmp x y) (B : sf_B a b z) (h : 0 < a) : ¬ x = y := by
  intro hx
  subst hx
  rw [lg_cmp_self] at e
  subst e
  have h1 := B.1
  have e0 : (0 : Int32).toInt = 0 := rfl
  omega
theorem sf_lneB {a b : Int} {x y : Int64} {z : Int32} (e : z = lg_cmp x y) (B : sf_B a b z) (h : b < 0) : ¬ x = y := by
  intro hx
  subst hx
  rw [lg_cmp_self] at e
  subst e
  have h1 := B.2
  have e0 : (0 : Int32).toInt = 0 := rfl
  omega
theorem sf_lneC {x y : Int64} {z : Int32} (e : z = lg_cmp x y) (h : ¬ z = 0) : ¬ x = y := by
  intro hx
  subst hx
  rw [lg_cmp_self] at e
  exact h e
def rf_W (l : List Nat) (m m' : Nat → Int32) : Prop := ∀ k, k ∉ l → m' k = m k
theorem rf_W.refl (l : List Nat) (m : Nat → Int32) : rf_W l m m := fun _ _ => rfl
theorem rf_W.trans {l l' : List Nat} {m m1 m2 : Nat → Int32} (x : rf_W l m m1) (y : rf_W l' m1 m2) (hl : ∀ k ∈ l', k ∈ l) : rf_W l m m2 := fun k hk => (y k (fun h => hk (hl k h))).trans (x k hk)
theorem rf_W.put {l : List Nat} {m m1 : Nat → Int32} (x : rf_W l m m1) {k : Nat} {v : Int32} (hk : k ∈ l) : rf_W l m (upd m1 k v) := fun j hj => by
  have e : j ≠ k := fun e => hj (e ▸ hk)
  show (upd m1 k v) j = m j
  unfold upd
  rw [if_neg e]
  exact x j hj
/-- only these cells were written -/
def rf_G (l : List Nat) (h h' : pm_H) : Prop := h'.1 = h.1 ∧ h'.2.1 = h.2.1 ∧ ∀ a, a ∉ l → h'.2.2 a = h.2.2 a
theorem rf_G.refl (l : List Nat) (h : pm_H) : rf_G l h h := ⟨rfl, rfl, fun _ _ => rfl⟩
theorem rf_G.trans {l l' : List Nat} {h h1 h2 : pm_H} (x : rf_G l h h1) (y : rf_G l' h1 h2) (hl : ∀ k ∈ l', k ∈ l) : rf_G l h h2 := ⟨y.1.trans x.1, y.2.1.trans x.2.1, fun a ha => (y.2.2 a (fun z => ha (hl a z))).trans (x.2.2 a ha)⟩
theorem rf_G.one (h : pm_H) (a : Nat) (c : pm_E) : rf_G [a] h (pm_set h a c) := ⟨rfl, rfl, fun b hb => by
  have hb2 : b ≠ a := fun e => hb (by rw [e]; exact List.mem_singleton.mpr rfl)
  simp [pm_set, va_up, hb2]⟩
theorem rf_G.cell {l : List Nat} {h h' : pm_H} (G : rf_G l h h') {a : Nat} {x : pm_E} (ha : a ∉ l) (e : h.2.2 a = x) : h'.2.2 a = x := (G.2.2 a ha).trans e
section RFR
variable {d mid pc pc' : Nat} {ls st : List Value} {h : pm_H} {Q : Option Value → pm_H → Prop} {q : pm_M} {l : List (Nat × Instr × Nat)} {L : Nat} {x y : Int32} {a b c e : Int} {m : Nat → Int32} {w : Int64}
theorem sf_R_iinc (hM : pm_Mt mid q l) {k : Nat} {n : Int} {ls' : Int32 → List Value} (hf : pm_find l pc = some (.iinc k n, L)) (hx : sf_B a b x) (hl : ls[k]? = some (.int x)) (lo : -2147483648 ≤ a + n) (up : b + n ≤ 2147483647) (hn : (Int32.ofInt n).toInt = n) (hs : ∀ z, pm_st1 ls k (.int z) = some (ls' z)) (hp : pc + 3 = pc') (kk : ∀ z : Int32, z.toInt = x.toInt + n → sf_B (a + n) (b + n) z → pm_R d mid pc' (ls' z) st h Q) : pm_R d mid pc ls st h Q := by
  have h1 := hx.1
  have h2 := hx.2
  have e : (x + Int32.ofInt n).toInt = x.toInt + n := by rw [Jvm.Kit.i32_add (by rw [hn]; omega) (by rw [hn]; omega), hn]
  refine pm_R_lo hM hf (ls' := ls' (x + Int32.ofInt n)) (st' := st) ?_ hp (kk _ e ⟨by rw [e]; omega, by rw [e]; omega⟩)
  show (pm_inc ls k n).map (fun ls => (ls, st)) = _
  unfold pm_inc
  rw [hl]
  show (pm_st1 ls k (.int (x + Int32.ofInt n))).map _ = _
  rw [hs]
  rfl
/-- a number that may run over is counted on -/
theorem sf_R_iincA (hM : pm_Mt mid q l) {k : Nat} {n : Int} {ls' : Int32 → List Value} (hf : pm_find l pc = some (.iinc k n, L)) (hl : ls[k]? = some (.int x)) (hs : ∀ z, pm_st1 ls k (.int z) = some (ls' z)) (hp : pc + 3 = pc') (kk : ∀ z : Int32, pm_R d mid pc' (ls' z) st h Q) : pm_R d mid pc ls st h Q := by
  refine pm_R_lo hM hf (ls' := ls' (x + Int32.ofInt n)) (st' := st) ?_ hp (kk _)
  show (pm_inc ls k n).map (fun ls => (ls, st)) = _
  unfold pm_inc
  rw [hl]
  show (pm_st1 ls k (.int (x + Int32.ofInt n))).map _ = _
  rw [hs]
  rfl
theorem sf_R_idivA (hM : pm_Mt mid q l) (hf : pm_find l pc = some (.idiv, L)) (hp : pc + 1 = pc') (hy : ¬ y = 0) (k : ∀ z : Int32, pm_R d mid pc' ls (.int z :: st) h Q) : pm_R d mid pc ls (.int y :: .int x :: st) h Q :=
  pm_R_op hM hf (st' := .int (x / y) :: st) (if_neg hy) hp (k _)
theorem sf_R_iremA (hM : pm_Mt mid q l) (hf : pm_find l pc = some (.irem, L)) (hp : pc + 1 = pc') (hy : ¬ y = 0) (k : ∀ z : Int32, pm_R d mid pc' ls (.int z :: st) h Q) : pm_R d mid pc ls (.int y :: .int x :: st) h Q :=
  pm_R_op hM hf (st' := .int (x - x / y * y) :: st) (if_neg hy) hp (k _)
theorem sf_R_ldivA (hM : pm_Mt mid q l) {x y : Int64} (hf : pm_find l pc = some (.ldiv, L)) (hp : pc + 1 = pc') (hy : ¬ y = 0) (k : ∀ z : Int64, pm_R d mid pc' ls (.long z :: st) h Q) : pm_R d mid pc ls (.long y :: .long x :: st) h Q :=
  pm_R_op hM hf (st' := .long (x / y) :: st) (if_neg hy) hp (k _)
theorem sf_R_lremA (hM : pm_Mt mid q l) {x y : Int64} (hf : pm_find l pc = some (.lrem, L)) (hp : pc + 1 = pc') (hy : ¬ y = 0) (k : ∀ z : Int64, pm_R d mid pc' ls (.long z :: st) h Q) : pm_R d mid pc ls (.long y :: .long x :: st) h Q :=
  pm_R_op hM hf (st' := .long (x - x / y * y) :: st) (if_neg hy) hp (k _)
theorem sf_R_lcmp (hM : pm_Mt mid q l) {x y : Int64} (hf : pm_find l pc = some (.lcmp, L)) (hp : pc + 1 = pc') (k : ∀ z : Int32, z = lg_cmp x y → pm_R d mid pc' ls (.int z :: st) h Q) : pm_R d mid pc ls (.long y :: .long x :: st) h Q :=
  pm_R_op hM hf (st' := .int (lg_cmp x y) :: st) rfl hp (k _ rfl)
/-- a store of an int behind a place of which only its width is known -/
theorem sf_R_sti (hM : pm_Mt mid q l) {i : Instr} {k : Nat} {v : Value} (hf : pm_find l pc = some (i, L)) (hi : pm_lo i ls (.int x :: st) = (pm_st1 ls (k + 1) (.int x)).map (fun l => (l, st))) (hl : k + 1 < ls.length) (hv : ls[k]? = some v) (hc : v.category = 1) {ls' : List Value} (hs : ls.set (k + 1) (.int x) = ls') (hp : pc + pm_len i = pc') (kk : pm_R d mid pc' ls' st h Q) : pm_R d mid pc ls (.int x :: st) h Q := by
  subst hs
  refine pm_R_lo hM hf (ls' := ls.set (k + 1) (.int x)) (st' := st) ?_ hp kk
  rw [hi, pm_st1_g hl hv hc]
  rfl
theorem rf_R_get (hM : pm_Mt mid q l) (T : rf_T m w h) {ix k : Nat} {nb : Bool} {v : Value} (hf : pm_find l pc = some (.getfield ix, L)) (hF : pm_at pm_FL q.2.2.2.2 ix = some (12, k, nb)) (hv : (rf_fs m w)[k]? = some v) (hp : pc + 3 = pc') (kk : pm_R d mid pc' ls (v :: st) h Q) : pm_R d mid pc ls (.ref 41 :: st) h Q :=
  pm_R_get hM hf hF T.2.1 (by decide) (Nat.lt_of_lt_of_le (by decide) T.1) hv hp kk
theorem rf_R_put (hM : pm_Mt mid q l) (T : rf_T m w h) {ix k : Nat} {nb : Bool} {qq : vw_C} (hf : pm_find l pc = some (.putfield ix, L)) (hF : pm_at pm_FL q.2.2.2.2 ix = some (12, k, nb)) (hq : pm_cl[12]? = some qq) (hk : k < 53) (hv : pm_fits (pm_ty qq.2.1 k) (.int x) = true) (hfin : (qq.2.1 k).2.2.2 = false) (hb : sf_B (rf_lo k) (rf_hi k) x) (hs : (rf_fs m w).set k (.int x) = rf_fs (upd m k x) w) (hp : pc + 3 = pc') (kk : ∀ h' m', m' = upd m k x → rf_T m' w h' → rf_G [41] h h' → pm_R d mid pc' ls st h' Q) : pm_R d mid pc ls (.int x :: .ref 41 :: st) h Q :=
  pm_R_put hM hf hF hq T.2.1 (by decide) (Nat.lt_of_lt_of_le (by decide) T.1) hk hv (Or.inl hfin) hs hp (kk _ _ rfl (rf_T.num T hb rfl) (rf_G.one _ _ _))
theorem rf_R_putL (hM : pm_Mt mid q l) (T : rf_T m w h) {ix k : Nat} {nb : Bool} {qq : vw_C} {w' : Int64} (hf : pm_find l pc = some (.putfield ix, L)) (hF : pm_at pm_FL q.2.2.2.2 ix = some (12, k, nb)) (hq : pm_cl[12]? = some qq) (hk : k < 53) (hv : pm_fits (pm_ty qq.2.1 k) (.long w') = true) (hfin : (qq.2.1 k).2.2.2 = false) (hs : (rf_fs m w).set k (.long w') = rf_fs m w') (hp : pc + 3 = pc') (kk : ∀ h', rf_T m w' h' → rf_G [41] h h' → pm_R d mid pc' ls st h' Q) : pm_R d mid pc ls (.long w' :: .ref 41 :: st) h Q :=
  pm_R_put hM hf hF hq T.2.1 (by decide) (Nat.lt_of_lt_of_le (by decide) T.1) hk hv (Or.inl hfin) hs hp (kk _ (rf_T.word T rfl) (rf_G.one _ _ _))
theorem rf_R_ild (hM : pm_Mt mid q l) (T : rf_T m w h) {a n : Nat} {f : Nat → Int32} {j : Int32} (hf : pm_find l pc = some (.iaload, L)) (hc : h.2.2 a = .inl (0, n, .inl f)) (ha : a < 72) (hj : pm_in j n = true) (hp : pc + 1 = pc') (kk : ∀ z, f j.toNatClampNeg = z → pm_R d mid pc' ls (.int z :: st) h Q) : pm_R d mid pc ls (.int j :: .ref a :: st) h Q :=
  pm_R_iald hM hf hc (Nat.lt_of_lt_of_le ha T.1) hj rfl hp (kk _ rfl)
theorem rf_R_lld (hM : pm_Mt mid q l) (T : rf_T m w h) {a n : Nat} {f : Nat → Int64} {j : Int32} (hf : pm_find l pc = some (.laload, L)) (hc : h.2.2 a = .inl (1, n, .inr (.inl f))) (h1 : 16 ≤ a) (ha : a < 72) (hj : pm_in j n = true) (hp : pc + 1 = pc') (kk : ∀ z, f j.toNatClampNeg = z → pm_R d mid pc' ls (.long z :: st) h Q) : pm_R d mid pc ls (.int j :: .ref a :: st) h Q :=
  pm_R_lald hM hf hc h1 (Nat.lt_of_lt_of_le ha T.1) hj rfl hp (kk _ rfl)
theorem rf_R_ist (hM : pm_Mt mid q l) (T : rf_T m w h) {a n : Nat} {f : Nat → Int32} {j : Int32} (hf : pm_find l pc = some (.iastore, L)) (hc : h.2.2 a = .inl (0, n, .inl f)) (h1 : 51 ≤ a) (h2 : a < 71) (hj : pm_in j n = true) (hC : rf_C a (.inl (0, n, .inl (upd f j.toNatClampNeg x)))) (hp : pc + 1 = pc') (kk : ∀ h', rf_T m w h' → rf_G [a] h h' → h'.2.2 a = .inl (0, n, .inl (upd f j.toNatClampNeg x)) → pm_R d mid pc' ls st h' Q) : pm_R d mid pc ls (.int x :: .int j :: .ref a :: st) h Q :=
  pm_R_iast hM hf hc (Nat.le_trans (by decide) h1) (Nat.lt_of_lt_of_le (Nat.lt_succ_of_lt h2) T.1) hj hp (kk _ (rf_T.arr T h1 (Nat.lt_succ_of_lt h2) hC) (rf_G.one _ _ _) (by simp [pm_set, va_up]))
theorem rf_R_lst (hM : pm_Mt mid q l) (T : rf_T m w h) {a n : Nat} {f : Nat → Int64} {j : Int32} {x : Int64} (hf : pm_find l pc = some (.lastore, L)) (hc : h.2.2 a = .inl (1, n, .inr (.inl f))) (h1 : 51 ≤ a) (h2 : a < 71) (hj : pm_in j n = true) (hC : rf_C a (.inl (1, n, .inr (.inl (vp_updL f j.toNatClampNeg x))))) (hp : pc + 1 = pc') (kk : ∀ h', rf_T m w h' → rf_G [a] h h' → h'.2.2 a = .inl (1, n, .inr (.inl (vp_updL f j.toNatClampNeg x))) → pm_R d mid pc' ls st h' Q) : pm_R d mid pc ls (.long x :: .int j :: .ref a :: st) h Q :=
  pm_R_last hM hf hc (Nat.le_trans (by decide) h1) (Nat.lt_of_lt_of_le (Nat.lt_succ_of_lt h2) T.1) hj hp (kk _ (rf_T.arr T h1 (Nat.lt_succ_of_lt h2) hC) (rf_G.one _ _ _) (by simp [pm_set, va_up]))
end RFR
section RFV
variable {d mid pc pc' : Nat} {ls st : List Value} {h : pm_H} {Q : Option Value → pm_H → Prop} {q : pm_M} {l : List (Nat × Instr × Nat)} {L : Nat} {x y z : Int32} {a b c e : Int} {m : Nat → Int32} {w : Int64}
theorem sf_R_iandE (hM : pm_Mt mid q l) (hf : pm_find l pc = some (.iand, L)) (hp : pc + 1 = pc') (hy : sf_B c e y) (hc : 0 ≤ c) (k : ∀ z : Int32, z = x &&& y → sf_B 0 e z → pm_R d mid pc' ls (.int z :: st) h Q) : pm_R d mid pc ls (.int y :: .int x :: st) h Q := by
  have h1 := sf_and (x := x) (y := y) (Int.le_trans hc hy.1)
  exact pm_R_op hM hf (st' := .int (x &&& y) :: st) rfl hp (k _ rfl ⟨h1.1, Int.le_trans h1.2 hy.2⟩)
theorem sf_R_iaddV (hM : pm_Mt mid q l) (hf : pm_find l pc = some (.iadd, L)) (hp : pc + 1 = pc') (hx : sf_B a b x) (hy : sf_B c e y) (lo : -2147483648 ≤ a + c) (up : b + e ≤ 2147483647) (he : z.toInt = x.toInt + y.toInt) (k : pm_R d mid pc' ls (.int z :: st) h Q) : pm_R d mid pc ls (.int y :: .int x :: st) h Q := by
  have e1 : (x + y).toInt = x.toInt + y.toInt := Jvm.Kit.i32_add (by have := hx.1; have := hy.1; omega) (by have := hx.2; have := hy.2; omega)
  have e2 : x + y = z := Int32.toInt_inj.mp (e1.trans he.symm)
  exact pm_R_op hM hf (st' := .int (x + y) :: st) rfl hp (by rw [e2]; exact k)
theorem sf_R_isubV (hM : pm_Mt mid q l) (hf : pm_find l pc = some (.isub, L)) (hp : pc + 1 = pc') (hx : sf_B a b x) (hy : sf_B c e y) (lo : -2147483648 ≤ a - e) (up : b - c ≤ 2147483647) (he : z.toInt = x.toInt - y.toInt) (k : pm_R d mid pc' ls (.int z :: st) h Q) : pm_R d mid pc ls (.int y :: .int x :: st) h Q := by
  have e1 : (x - y).toInt = x.toInt - y.toInt := Jvm.Kit.i32_sub (by have := hx.1; have := hy.2; omega) (by have := hx.2; have := hy.1; omega)
  have e2 : x - y = z := Int32.toInt_inj.mp (e1.trans he.symm)
  exact pm_R_op hM hf (st' := .int (x - y) :: st) rfl hp (by rw [e2]; exact k)
theorem sf_R_imulV (hM : pm_Mt mid q l) (hf : pm_find l pc = some (.imul, L)) (hp : pc + 1 = pc') (hx : sf_B a b x) (hy : sf_B c e y) (ha : 0 ≤ a) (hc : 0 ≤ c) (up : b * e ≤ 2147483647) (he : z.toInt = x.toInt * y.toInt) (k : pm_R d mid pc' ls (.int z :: st) h Q) : pm_R d mid pc ls (.int y :: .int x :: st) h Q := by
  have l1 : 0 ≤ x.toInt * y.toInt := Int.mul_nonneg (Int.le_trans ha hx.1) (Int.le_trans hc hy.1)
  have l2 : x.toInt * y.toInt ≤ b * e := Int.mul_le_mul hx.2 hy.2 (Int.le_trans hc hy.1) (Int.le_trans (Int.le_trans ha hx.1) hx.2)
  have e1 : (x * y).toInt = x.toInt * y.toInt := Jvm.Kit.i32_mul (by omega) (by omega)
  have e2 : x * y = z := Int32.toInt_inj.mp (e1.trans he.symm)
  exact pm_R_op hM hf (st' := .int (x * y) :: st) rfl hp (by rw [e2]; exact k)
theorem rf_R_bld (hM : pm_Mt mid q l) (T : rf_T m w h) {a n t : Nat} {f : Nat → Int32} {j : Int32} (hf : pm_find l pc = some (.baload, L)) (hc : h.2.2 a = .inl (t, n, .inl f)) (ht : t = 2 ∨ t = 3) (h1 : 16 ≤ a) (ha : a < 72) (hj : pm_in j n = true) (hp : pc + 1 = pc') (kk : ∀ z, f j.toNatClampNeg = z → pm_R d mid pc' ls (.int z :: st) h Q) : pm_R d mid pc ls (.int j :: .ref a :: st) h Q :=
  pm_R_bald hM hf hc ht h1 (Nat.lt_of_lt_of_le ha T.1) hj rfl hp (kk _ rfl)
end RFV
