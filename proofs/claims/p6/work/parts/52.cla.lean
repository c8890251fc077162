section
/-! what the reader of texts has taken in while there is no FAULT: 0 a LIST, 1 a ROW, 2 a MEAL, 3 a HOUSE -/
def cl_Y (h : pm_H) : Prop := ∃ f : Nat → Int32, h.2.2 28 = .inl (0, 10, .inl f) ∧ ∀ j, sf_B 0 1023 (f j)
def cl_RF (s : Nat) (n r st hs : Int) (fi ft : Nat → Int32) : Prop := match s with
  | 0 => n ≤ 10 ∧ (∀ k : Nat, (k : Int) < n → sf_B 0 5 (fi (4 * k)) ∧ sf_B 0 5 (fi (4 * k + 1)) ∧ sf_B 0 5 (fi (4 * k + 2))) ∧ (∀ k : Nat, (k : Int) < r → sf_B 0 9 (ft (4 * k)) ∧ sf_B 0 5 (ft (4 * k + 1)) ∧ sf_B 0 49 (ft (4 * k + 2)))
  | 1 => n ≤ 12 ∧ ∀ k : Nat, (k : Int) < n → sf_B 0 9 (fi k)
  | 2 => (1 ≤ st ∧ st ≤ 6) ∧ ∀ k : Nat, (k : Int) < n → sf_B 0 2 (fi (4 * k)) ∧ (0 ≤ (fi (4 * k + 1)).toInt ∧ (fi (4 * k + 1)).toInt ≤ hs) ∧ sf_B (-1) 9 (fi (4 * k + 2)) ∧ ((fi (4 * k)).toInt = 2 → 0 ≤ (fi (4 * k + 2)).toInt)
  | _ => n ≤ 8 ∧ ∀ k : Nat, (k : Int) < n → sf_B 0 5 (fi (4 * k)) ∧ sf_B 0 9 (fi (4 * k + 1)) ∧ sf_B (-1) 9 (fi (4 * k + 2))
def cl_Rd (s : Nat) (m : Nat → Int32) (h : pm_H) : Prop := (m 3).toInt = 0 → ∃ fi ft : Nat → Int32, h.2.2 26 = .inl (0, 200, .inl fi) ∧ h.2.2 27 = .inl (0, 64, .inl ft) ∧ cl_RF s (m 5).toInt (m 6).toInt (m 7).toInt (m 8).toInt fi ft
theorem cl_Rd.at {s : Nat} {m : Nat → Int32} {h : pm_H} {f g : Nat → Int32} (R : cl_Rd s m h) (z : (m 3).toInt = 0) (e1 : h.2.2 26 = .inl (0, 200, .inl f)) (e2 : h.2.2 27 = .inl (0, 64, .inl g)) : cl_RF s (m 5).toInt (m 6).toInt (m 7).toInt (m 8).toInt f g := by
  obtain ⟨fi, ft, a, b, c⟩ := R z
  rw [e1] at a; rw [e2] at b
  cases a; cases b; exact c
theorem cl_RF.keep {s : Nat} {n r st hs n' r' st' hs' : Int} {fi ft : Nat → Int32} (R : cl_RF s n r st hs fi ft) (h1 : n' = n) (h2 : r' = r) (h3 : st' = st) (h4 : hs' = hs) : cl_RF s n' r' st' hs' fi ft := by
  subst h1; subst h2; subst h3; subst h4; exact R
theorem cl_RF.start {s : Nat} {n r st hs : Int} {fi ft : Nat → Int32} (h1 : n = 0) (h2 : r = 0) (h3 : st = 4) : cl_RF s n r st hs fi ft := by
  subst h1; subst h2; subst h3
  unfold cl_RF
  split
  · exact ⟨by decide, fun k hk => absurd hk (by omega), fun k hk => absurd hk (by omega)⟩
  · exact ⟨by decide, fun k hk => absurd hk (by omega)⟩
  · exact ⟨⟨by decide, by decide⟩, fun k hk => absurd hk (by omega)⟩
  · exact ⟨by decide, fun k hk => absurd hk (by omega)⟩
theorem cl_cpO {f g : Nat → Int32} {D N k : Nat} (h : k < D ∨ D + N ≤ k) : va_cpy f g 0 D N k = g k := by
  unfold va_cpy; rw [if_neg (by omega)]
theorem cl_cpI {f g : Nat → Int32} {D N k i : Nat} (h : k = D + i) (hi : i < N) : va_cpy f g 0 D N k = f i := by
  unfold va_cpy; rw [if_pos (by omega)]; congr 1; omega
theorem cl_tnI {x : Int32} (h : 0 ≤ x.toInt) : (x.toNatClampNeg : Int) = x.toInt := by
  have e : x.toNatClampNeg = x.toInt.toNat := rfl
  omega
theorem cl_RF.rule {n r st hs n' r' st' hs' : Int} {fi ft fl : Nat → Int32} {D : Nat} (R : cl_RF 0 n r st hs fi ft) (hn : n < 10) (hD : (D : Int) = 4 * n) (b0 : sf_B 0 5 (fl 0)) (b1 : sf_B 0 5 (fl 1)) (b2 : sf_B 0 5 (fl 2)) (h1 : n' = n + 1) (h2 : r' = r) : cl_RF 0 n' r' st' hs' (va_cpy fl fi 0 D 4) ft := by
  subst h1; subst h2
  obtain ⟨_, ri, rt⟩ := R
  refine ⟨by omega, fun k hk => ?_, rt⟩
  by_cases e : (k : Int) = n
  · rw [cl_cpI (i := 0) (by omega) (by decide), cl_cpI (i := 1) (by omega) (by decide), cl_cpI (i := 2) (by omega) (by decide)]
    exact ⟨b0, b1, b2⟩
  · rw [cl_cpO (by omega), cl_cpO (by omega), cl_cpO (by omega)]
    exact ri k (by omega)
theorem cl_RF.sign {n r st hs n' r' st' hs' : Int} {fi ft fl : Nat → Int32} {D : Nat} (R : cl_RF 0 n r st hs fi ft) (hD : (D : Int) = 4 * r) (b0 : sf_B 0 9 (fl 0)) (b1 : sf_B 0 5 (fl 1)) (b2 : sf_B 0 49 (fl 2)) (h1 : n' = n) (h2 : r' = r + 1) : cl_RF 0 n' r' st' hs' fi (va_cpy fl ft 0 D 4) := by
  subst h1; subst h2
  obtain ⟨rn, ri, rt⟩ := R
  refine ⟨rn, ri, fun k hk => ?_⟩
  by_cases e : (k : Int) = r
  · rw [cl_cpI (i := 0) (by omega) (by decide), cl_cpI (i := 1) (by omega) (by decide), cl_cpI (i := 2) (by omega) (by decide)]
    exact ⟨b0, b1, b2⟩
  · rw [cl_cpO (by omega), cl_cpO (by omega), cl_cpO (by omega)]
    exact rt k (by omega)
theorem cl_RF.seats {n r st hs n' r' st' hs' : Int} {fi ft : Nat → Int32} (R : cl_RF 2 n r st hs fi ft) (hs1 : 1 ≤ st') (hs2 : st' ≤ 6) (h1 : n' = n) (h4 : hs' = hs) : cl_RF 2 n' r' st' hs' fi ft := by
  subst h1; subst h4
  exact ⟨⟨hs1, hs2⟩, R.2⟩
theorem cl_RF.row {n r st hs n' r' st' hs' : Int} {fi ft : Nat → Int32} {D : Nat} {v : Int32} (R : cl_RF 1 n r st hs fi ft) (hn : n < 12) (hD : (D : Int) = n) (b : sf_B 0 9 v) (h1 : n' = n + 1) : cl_RF 1 n' r' st' hs' (upd fi D v) ft := by
  subst h1
  refine ⟨by omega, fun k hk => ?_⟩
  unfold upd
  by_cases e : k = D
  · rw [if_pos e]; exact b
  · rw [if_neg e]; exact R.2 k (by omega)
theorem cl_RF.deed {n r st hs n' r' st' hs' : Int} {fi ft fl : Nat → Int32} {D0 D1 : Nat} {c : Int32} (R : cl_RF 2 n r st hs fi ft) (h0 : (D0 : Int) = 4 * n) (hD : (D1 : Int) = 4 * n + 1) (bc : sf_B 0 2 c) (b0 : 0 ≤ (fl 0).toInt) (b0' : (fl 0).toInt ≤ hs') (b1 : sf_B (-1) 9 (fl 1)) (b2 : c.toInt = 2 → 0 ≤ (fl 1).toInt) (h1 : n' = n + 1) (h3 : st' = st) (h4 : hs ≤ hs') : cl_RF 2 n' r' st' hs' (va_cpy fl (upd fi D0 c) 0 D1 3) ft := by
  subst h1; subst h3
  obtain ⟨rs, ri⟩ := R
  refine ⟨rs, fun k hk => ?_⟩
  by_cases e : (k : Int) = n
  · have u : upd fi D0 c (4 * k) = c := by unfold upd; rw [if_pos (by omega)]
    rw [cl_cpO (by omega), cl_cpI (i := 0) (by omega) (by decide), cl_cpI (i := 1) (by omega) (by decide), u]
    exact ⟨bc, ⟨b0, b0'⟩, b1, b2⟩
  · have u : ∀ j, j ≠ D0 → upd fi D0 c j = fi j := fun j hj => by unfold upd; rw [if_neg hj]
    rw [cl_cpO (by omega), cl_cpO (by omega), cl_cpO (by omega), u _ (by omega), u _ (by omega), u _ (by omega)]
    obtain ⟨a1, a2, a3, a4⟩ := ri k (by omega)
    exact ⟨a1, ⟨a2.1, by omega⟩, a3, a4⟩
theorem cl_RF.law {n r st hs n' r' st' hs' : Int} {fi ft fl : Nat → Int32} {D0 D1 : Nat} {c : Int32} (R : cl_RF 3 n r st hs fi ft) (hn : n < 8) (h0 : (D0 : Int) = 4 * n) (hD : (D1 : Int) = 4 * n + 1) (bc : sf_B 0 5 c) (b0 : sf_B 0 9 (fl 0)) (b1 : sf_B (-1) 9 (fl 1)) (h1 : n' = n + 1) : cl_RF 3 n' r' st' hs' (va_cpy fl (upd fi D0 c) 0 D1 3) ft := by
  subst h1
  obtain ⟨rs, ri⟩ := R
  refine ⟨by omega, fun k hk => ?_⟩
  by_cases e : (k : Int) = n
  · have u : upd fi D0 c (4 * k) = c := by unfold upd; rw [if_pos (by omega)]
    rw [cl_cpO (by omega), cl_cpI (i := 0) (by omega) (by decide), cl_cpI (i := 1) (by omega) (by decide), u]
    exact ⟨bc, b0, b1⟩
  · have u : ∀ j, j ≠ D0 → upd fi D0 c j = fi j := fun j hj => by unfold upd; rw [if_neg hj]
    rw [cl_cpO (by omega), cl_cpO (by omega), cl_cpO (by omega), u _ (by omega), u _ (by omega), u _ (by omega)]
    exact ri k (by omega)
theorem cl_upE {f : Nat → Int32} {k : Nat} {v : Int32} {P : Int32 → Prop} (h : P (upd f k v k)) : P v := by
  have : upd f k v k = v := sf_upd_eq
  rw [this] at h; exact h
theorem cl_upK {f : Nat → Int32} {k j : Nat} {v : Int32} {P : Int32 → Prop} (h : P (f j)) (hj : j ≠ k) : P (upd f k v j) := by
  unfold upd; rw [if_neg hj]; exact h
theorem cl_Y.set {h : pm_H} {f : Nat → Int32} {k : Nat} {v : Int32} {h' : pm_H} (b : ∀ j, sf_B 0 1023 (f j)) (hv : sf_B 0 1023 v) (e : h'.2.2 28 = .inl (0, 10, .inl (upd f k v))) : cl_Y h' := ⟨_, e, sf_upd b hv k⟩
theorem cl_bv {x : Int32} (h : sf_B 0 1023 x) : x.toBitVec.toNat < 1024 := by
  have e : x.toInt = x.toBitVec.toInt := rfl
  have h1 := h.1
  have h2 := h.2
  rw [e, BitVec.toInt_eq_toNat_cond] at h1 h2
  have := x.toBitVec.isLt
  split at h1 <;> omega
theorem cl_vb {x : Int32} (h : x.toBitVec.toNat < 1024) : sf_B 0 1023 x := by
  have e : x.toInt = x.toBitVec.toInt := rfl
  unfold sf_B
  rw [e, BitVec.toInt_eq_toNat_of_lt (by omega)]
  omega
theorem cl_or10 {x y : Int32} (hx : sf_B 0 1023 x) (hy : sf_B 0 1023 y) : sf_B 0 1023 (x ||| y) := by
  refine cl_vb ?_
  have e : (x ||| y).toBitVec = x.toBitVec ||| y.toBitVec := rfl
  rw [e, BitVec.toNat_or]
  exact Nat.or_lt_two_pow (n := 10) (cl_bv hx) (cl_bv hy)
theorem cl_shl10 {y : Int32} (hy : sf_B 0 9 y) : sf_B 0 1023 ((1 : Int32) <<< (y &&& 31)) := by
  have h1 := hy.1
  have h2 := hy.2
  have n0 := cl_nat32 hy (by decide)
  rw [n0]
  have : ∀ n, n < 10 → sf_B 0 1023 ((1 : Int32) <<< (Int32.ofNat n &&& 31)) := fun n hn => by
    have : (List.range 10).all (fun n => decide (0 ≤ ((1 : Int32) <<< (Int32.ofNat n &&& 31)).toInt ∧ ((1 : Int32) <<< (Int32.ofNat n &&& 31)).toInt ≤ 1023)) = true := by decide +kernel
    have q := List.all_eq_true.mp this n (List.mem_range.mpr hn)
    have r := of_decide_eq_true q
    exact r
  exact this _ (by omega)
variable {d mid pc pc' : Nat} {ls st : List Value} {h : pm_H} {Q : Option Value → pm_H → Prop} {q : pm_M} {l : List (Nat × Instr × Nat)} {L : Nat} {ck : cl_K} {E : Nat → pm_E} {m : Nat → Int32} {o : Nat → Option Nat}
theorem sf_R_ior10 (hM : pm_Mt mid q l) {x y : Int32} (hf : pm_find l pc = some (.ior, L)) (hp : pc + 1 = pc') (hx : sf_B 0 1023 x) (hy : sf_B 0 1023 y) (k : ∀ z : Int32, sf_B 0 1023 z → pm_R d mid pc' ls (.int z :: st) h Q) : pm_R d mid pc ls (.int y :: .int x :: st) h Q :=
  pm_R_op hM hf (st' := .int (x ||| y) :: st) rfl hp (k _ (cl_or10 hx hy))
theorem sf_R_shl10 (hM : pm_Mt mid q l) {y : Int32} (hf : pm_find l pc = some (.ishl, L)) (hp : pc + 1 = pc') (hy : sf_B 0 9 y) (k : ∀ z : Int32, sf_B 0 1023 z → pm_R d mid pc' ls (.int z :: st) h Q) : pm_R d mid pc ls (.int y :: .int 1 :: st) h Q :=
  pm_R_op hM hf (st' := .int (1 <<< (y &&& 31)) :: st) rfl hp (k _ (cl_shl10 hy))
theorem cl_R_maxR (hM : pm_Mt mid q l) {ix : Nat} {x y : Int32} {a b c e : Int} (hf : pm_find l pc = some (.invokestatic ix, L)) (hn : pm_at pm_CL q.2.2.2.2 ix = none) (hX : pm_at pm_XL q.2.2.2.2 ix = some 4) (hs : (st.map fun v => v.category).sum ≤ 8) (hp : pc + 3 = pc') (hx : sf_B a b x) (hy : sf_B c e y) (kk : ∀ z : Int32, sf_B (max a c) (max b e) z → x ≤ z → y ≤ z → pm_R d mid pc' ls (.int z :: st) h Q) : pm_R d mid pc ls (.int y :: .int x :: st) h Q := by
  have h1 := hx.1; have h2 := hx.2; have h3 := hy.1; have h4 := hy.2
  refine pm_R_nat hM hf rfl hn (st' := .int (if x < y then y else x) :: st) (h' := h) ?_ hp (kk _ ?_ ?_ ?_)
  · show (pm_at pm_XL _ ix).bind _ = _
    rw [hX]
    show (if _ then _ else _) = _
    rw [if_pos hs]
  · by_cases hc : x < y
    · rw [if_pos hc]
      have := Int32.lt_iff_toInt_lt.mp hc
      unfold sf_B; omega
    · rw [if_neg hc]
      have := Int32.le_iff_toInt_le.mp (Int32.not_lt.mp hc)
      unfold sf_B; omega
  · by_cases hc : x < y
    · rw [if_pos hc]; exact Int32.le_of_lt hc
    · rw [if_neg hc]; exact Int32.le_iff_toInt_le.mpr (Int.le_refl _)
  · by_cases hc : x < y
    · rw [if_pos hc]; exact Int32.le_iff_toInt_le.mpr (Int.le_refl _)
    · rw [if_neg hc]; exact Int32.not_lt.mp hc
theorem pm_hb_acp {ini : Bool} {c ix : Nat} {n dp sp : Int32} {a b : Nat} {st : List Value} {h : pm_H} {n0 n1 : Nat} {f g : Nat → Int32} (hx : pm_at pm_XL c ix = some 1) (ha : h.2.2 a = .inl (0, n0, .inl f)) (hb : h.2.2 b = .inl (0, n1, .inl g)) (hc : 16 ≤ a ∧ a < h.1 ∧ 16 ≤ b ∧ b < h.1 ∧ ¬ sp < 0 ∧ ¬ dp < 0 ∧ ¬ n < 0 ∧ sp.toNatClampNeg + n.toNatClampNeg ≤ n0 ∧ dp.toNatClampNeg + n.toNatClampNeg ≤ n1 ∧ (st.map fun v => v.category).sum ≤ 8) :
    pm_hb ini c (.invokestatic ix) (.int n :: .int dp :: .ref b :: .int sp :: .ref a :: st) h = some (st, pm_set h b (.inl (0, n1, .inl (va_cpy f g sp.toNatClampNeg dp.toNatClampNeg n.toNatClampNeg)))) := by
  unfold pm_hb
  dsimp only
  rw [hx]
  simp only [Option.bind, ha, hb]; exact if_pos hc
/-- arraycopy of ints -/
theorem pm_R_acp (hM : pm_Mt mid q l) {ix : Nat} (hf : pm_find l pc = some (.invokestatic ix, L)) (hn : pm_at pm_CL q.2.2.2.2 ix = none) (hx : pm_at pm_XL q.2.2.2.2 ix = some 1) {n dp sp : Int32} {a b n0 n1 N S D : Nat} {f g : Nat → Int32} (ha : h.2.2 a = .inl (0, n0, .inl f)) (hb : h.2.2 b = .inl (0, n1, .inl g)) (la : 16 ≤ a) (la' : a < h.1) (lb : 16 ≤ b) (lb' : b < h.1) (hs : sp.toNatClampNeg = S) (hd : dp.toNatClampNeg = D) (hN : n.toNatClampNeg = N) (ps : ¬ sp < 0) (pd : ¬ dp < 0) (pn : ¬ n < 0) (h0 : S + N ≤ n0) (h1 : D + N ≤ n1) (hc : (st.map fun v => v.category).sum ≤ 8) (hp : pc + 3 = pc') (kk : pm_R d mid pc' ls st (pm_set h b (.inl (0, n1, .inl (va_cpy f g S D N)))) Q) : pm_R d mid pc ls (.int n :: .int dp :: .ref b :: .int sp :: .ref a :: st) h Q := by
  subst hs hd hN
  exact pm_R_nat hM hf rfl hn (pm_hb_acp hx ha hb ⟨la, la', lb, lb', ps, pd, pn, h0, h1, hc⟩) hp kk
theorem cl_R_acp (G : cl_G ck E) (hM : pm_Mt mid q l) (T : cl_T ck E m o h) {ix : Nat} (hf : pm_find l pc = some (.invokestatic ix, L)) (hn : pm_at pm_CL q.2.2.2.2 ix = none) (hx : pm_at pm_XL q.2.2.2.2 ix = some 1) {n dp : Int32} {b n1 N : Nat} {lo hi : Int} {f g : Nat → Int32} (ea : h.2.2 29 = .inl (0, 4, .inl f)) (eb : h.2.2 b = .inl (0, n1, .inl g)) (hb : b = 26 ∨ b = 27) (hC : cl_C ck b (.inl (0, n1, .inl (va_cpy f g 0 dp.toNatClampNeg N)))) (hN : n.toNatClampNeg = N) (pn : ¬ n < 0) (h0 : N ≤ 4) (Bd : sf_B lo hi dp) (hlo : 0 ≤ lo) (h1 : hi + N ≤ n1) (hc : (st.map fun v => v.category).sum ≤ 8) (hp : pc + 3 = pc') (kk : ∀ h', cl_T ck E m o h' → rf_G [b] h h' → h'.2.2 b = .inl (0, n1, .inl (va_cpy f g 0 dp.toNatClampNeg N)) → pm_R d mid pc' ls st h' Q) : pm_R d mid pc ls (.int n :: .int dp :: .ref b :: .int 0 :: .ref 29 :: st) h Q := by
  have h72 := T.1
  have e : dp.toNatClampNeg = dp.toInt.toNat := rfl
  have d1 := Bd.1
  have d2 := Bd.2
  refine pm_R_acp hM hf hn hx ea eb (by decide) (by omega) (by omega) (by omega) rfl rfl hN (by decide) (fun z => by have := Int32.lt_iff_toInt_lt.mp z; have e0 : (0 : Int32).toInt = 0 := rfl; omega) pn (by show 0 + N ≤ 4; omega) (by omega) hc hp (kk _ (T.arr G (by omega) hC) (rf_G.one _ _ _) cl_set_eq)
end
