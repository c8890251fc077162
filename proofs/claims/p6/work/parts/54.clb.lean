section
/-! a LIST or a MEAL that is being made: its cells lie at t, t + 1 .. -/
variable {d mid pc pc' : Nat} {ls st : List Value} {h h0 : pm_H} {Q : Option Value → pm_H → Prop} {q : pm_M} {l : List (Nat × Instr × Nat)} {L : Nat} {t rc tc s n : Nat} {gr gt fn fd : Nat → Int32}
def cl_LW (t rc tc : Nat) (gr gt fn : Nat → Int32) (h0 h : pm_H) : Prop := h.1 = t + 6 ∧ h.2.1 = h0.2.1 ∧ (∀ b, b < t → h.2.2 b = h0.2.2 b) ∧ h.2.2 t = .inr (4, [.int (Int32.ofNat rc), .ref (t + 3), .int (Int32.ofNat tc), .ref (t + 4), .ref (t + 5), .ref (t + 1), .ref (t + 2), .int 0]) ∧ (∃ f, h.2.2 (t + 1) = .inl (1, 60, .inr (.inl f))) ∧ (∃ f, h.2.2 (t + 2) = .inl (0, 100, .inl f)) ∧ h.2.2 (t + 3) = .inl (0, 4 * rc, .inl gr) ∧ h.2.2 (t + 4) = .inl (0, 4 * tc, .inl gt) ∧ h.2.2 (t + 5) = .inl (0, 10, .inl fn)
def cl_MW (t s n : Nat) (fd : Nat → Int32) (h0 h : pm_H) : Prop := h.1 = t + 4 ∧ h.2.1 = h0.2.1 ∧ (∀ b, b < t → h.2.2 b = h0.2.2 b) ∧ h.2.2 t = .inr (1, [.int (Int32.ofNat s), .int (Int32.ofNat n), .ref (t + 1), .ref (t + 2), .ref (t + 3)]) ∧ h.2.2 (t + 1) = .inl (0, 4 * n, .inl fd) ∧ (∃ f, h.2.2 (t + 2) = .inl (0, (n + 1) * s, .inl f)) ∧ (∃ f, h.2.2 (t + 3) = .inl (0, n, .inl f))
theorem cl_geT {i : Nat} (h72 : 72 ≤ t) : 16 ≤ t + i := by omega
theorem cl_geT0 (h72 : 72 ≤ t) : 16 ≤ t := by omega
theorem cl_alT {i N : Nat} (e : h.1 = t + N) (hi : i < N) : t + i < h.1 := by omega
theorem cl_alT0 {N : Nat} (e : h.1 = t + N) (hi : 0 < N) : t < h.1 := by omega
theorem cl_LW.set {i : Nat} {x : pm_E} (P : cl_LW t rc tc gr gt fn h0 h) (hi : i = 1 ∨ i = 2) (n1 : i = 1 → ∃ f, x = .inl (1, 60, .inr (.inl f))) (n2 : i = 2 → ∃ f, x = .inl (0, 100, .inl f)) : cl_LW t rc tc gr gt fn h0 (pm_set h (t + i) x) := by
  obtain ⟨p1, p2, p3, p4, p5, p6, p7, p8, p9⟩ := P
  refine ⟨p1, p2, fun b hb => ?_, ?_, ?_, ?_, ?_, ?_, ?_⟩
  · rw [cl_set_ne (by omega)]; exact p3 b hb
  · rw [cl_set_ne (by omega)]; exact p4
  · by_cases e : i = 1
    · subst e; rw [cl_set_eq]; exact n1 rfl
    · rw [cl_set_ne (by omega)]; exact p5
  · by_cases e : i = 2
    · subst e; rw [cl_set_eq]; exact n2 rfl
    · rw [cl_set_ne (by omega)]; exact p6
  · rw [cl_set_ne (by omega)]; exact p7
  · rw [cl_set_ne (by omega)]; exact p8
  · rw [cl_set_ne (by omega)]; exact p9
theorem cl_LW.R1 (P : cl_LW t rc tc gr gt fn h0 h) (hM : pm_Mt mid q l) (h72 : 72 ≤ t) {f : Nat → Int64} {j : Int32} {x : Int64} (hf : pm_find l pc = some (.lastore, L)) (hc : h.2.2 (t + 1) = .inl (1, 60, .inr (.inl f))) (hj : pm_in j 60 = true) (hp : pc + 1 = pc') (kk : ∀ h', cl_LW t rc tc gr gt fn h0 h' → pm_R d mid pc' ls st h' Q) : pm_R d mid pc ls (.long x :: .int j :: .ref (t + 1) :: st) h Q :=
  pm_R_last hM hf hc (cl_geT h72) (cl_alT P.1 (by decide)) hj hp (kk _ (P.set (Or.inl rfl) (fun _ => ⟨_, rfl⟩) (fun z => absurd z (by decide))))
theorem cl_LW.R2 (P : cl_LW t rc tc gr gt fn h0 h) (hM : pm_Mt mid q l) (h72 : 72 ≤ t) {f : Nat → Int32} {j x : Int32} (hf : pm_find l pc = some (.iastore, L)) (hc : h.2.2 (t + 2) = .inl (0, 100, .inl f)) (hj : pm_in j 100 = true) (hp : pc + 1 = pc') (kk : ∀ h', cl_LW t rc tc gr gt fn h0 h' → pm_R d mid pc' ls st h' Q) : pm_R d mid pc ls (.int x :: .int j :: .ref (t + 2) :: st) h Q :=
  pm_R_iast hM hf hc (cl_geT h72) (cl_alT P.1 (by decide)) hj hp (kk _ (P.set (Or.inr rfl) (fun z => absurd z (by decide)) (fun _ => ⟨_, rfl⟩)))
theorem cl_MW.set {i : Nat} {x : pm_E} (P : cl_MW t s n fd h0 h) (hi : i = 2 ∨ i = 3) (n1 : i = 2 → ∃ f, x = .inl (0, (n + 1) * s, .inl f)) (n2 : i = 3 → ∃ f, x = .inl (0, n, .inl f)) : cl_MW t s n fd h0 (pm_set h (t + i) x) := by
  obtain ⟨p1, p2, p3, p4, p5, p6, p7⟩ := P
  refine ⟨p1, p2, fun b hb => ?_, ?_, ?_, ?_, ?_⟩
  · rw [cl_set_ne (by omega)]; exact p3 b hb
  · rw [cl_set_ne (by omega)]; exact p4
  · rw [cl_set_ne (by omega)]; exact p5
  · by_cases e : i = 2
    · subst e; rw [cl_set_eq]; exact n1 rfl
    · rw [cl_set_ne (by omega)]; exact p6
  · by_cases e : i = 3
    · subst e; rw [cl_set_eq]; exact n2 rfl
    · rw [cl_set_ne (by omega)]; exact p7
theorem cl_MW.R2 (P : cl_MW t s n fd h0 h) (hM : pm_Mt mid q l) (h72 : 72 ≤ t) {f : Nat → Int32} {j x : Int32} (hf : pm_find l pc = some (.iastore, L)) (hc : h.2.2 (t + 2) = .inl (0, (n + 1) * s, .inl f)) (hj : pm_in j ((n + 1) * s) = true) (hp : pc + 1 = pc') (kk : ∀ h', cl_MW t s n fd h0 h' → pm_R d mid pc' ls st h' Q) : pm_R d mid pc ls (.int x :: .int j :: .ref (t + 2) :: st) h Q :=
  pm_R_iast hM hf hc (cl_geT h72) (cl_alT P.1 (by decide)) hj hp (kk _ (P.set (Or.inl rfl) (fun _ => ⟨_, rfl⟩) (fun z => absurd z (by decide))))
theorem cl_MW.R3 (P : cl_MW t s n fd h0 h) (hM : pm_Mt mid q l) (h72 : 72 ≤ t) {f : Nat → Int32} {j x : Int32} (hf : pm_find l pc = some (.iastore, L)) (hc : h.2.2 (t + 3) = .inl (0, n, .inl f)) (hj : pm_in j n = true) (hp : pc + 1 = pc') (kk : ∀ h', cl_MW t s n fd h0 h' → pm_R d mid pc' ls st h' Q) : pm_R d mid pc ls (.int x :: .int j :: .ref (t + 3) :: st) h Q :=
  pm_R_iast hM hf hc (cl_geT h72) (cl_alT P.1 (by decide)) hj hp (kk _ (P.set (Or.inr rfl) (fun z => absurd z (by decide)) (fun _ => ⟨_, rfl⟩)))
theorem cl_MW.Rc (P : cl_MW t s n fd h0 h) (hM : pm_Mt mid q l) (h72 : 72 ≤ t) {ix : Nat} {f : Nat → Int32} {sp dp k k1 : Int32} {a b : Int} (hf : pm_find l pc = some (.invokestatic ix, L)) (hn : pm_at pm_CL q.2.2.2.2 ix = none) (hx : pm_at pm_XL q.2.2.2.2 ix = some 1) (hc : h.2.2 (t + 2) = .inl (0, (n + 1) * s, .inl f)) (e1 : sp.toInt = k.toInt * (Int32.ofNat s).toInt) (ek : k1.toInt = k.toInt + 1) (e2 : dp.toInt = k1.toInt * (Int32.ofNat s).toInt) (hk : k < Int32.ofNat n) (Bk : sf_B a b k) (ha : 0 ≤ a) (hs6 : s ≤ 6) (hn50 : n ≤ 50) (hst : (st.map fun v => v.category).sum ≤ 8) (hp : pc + 3 = pc') (kk : ∀ h', cl_MW t s n fd h0 h' → pm_R d mid pc' ls st h' Q) : pm_R d mid pc ls (.int (Int32.ofNat s) :: .int dp :: .ref (t + 2) :: .int sp :: .ref (t + 2) :: st) h Q := by
  have b1 := Bk.1
  have lt := Int32.lt_iff_toInt_lt.mp hk
  rw [sf_ofT (by omega)] at lt e1 e2
  have k0 : 0 ≤ k.toInt := by omega
  have q1 : sp.toNatClampNeg = sp.toInt.toNat := rfl
  have q2 : dp.toNatClampNeg = dp.toInt.toNat := rfl
  obtain ⟨kn, hkn⟩ : ∃ kn : Nat, k.toInt = kn := ⟨k.toInt.toNat, by omega⟩
  have z1 : sp.toInt = ((kn * s : Nat) : Int) := by rw [e1, hkn]; simp
  have z2 : dp.toInt = (((kn + 1) * s : Nat) : Int) := by rw [e2, ek, hkn]; simp
  have r1 : kn * s + s ≤ (n + 1) * s := by
    have : (kn + 1) * s ≤ (n + 1) * s := Nat.mul_le_mul_right s (by omega)
    rw [Nat.succ_mul] at this; exact this
  have r2 : (kn + 1) * s + s ≤ (n + 1) * s := by
    have : (kn + 1 + 1) * s ≤ (n + 1) * s := Nat.mul_le_mul_right s (by omega)
    rw [Nat.succ_mul] at this; exact this
  refine pm_R_acp hM hf hn hx hc hc (cl_geT h72) (cl_alT P.1 (by decide)) (cl_geT h72) (cl_alT P.1 (by decide)) rfl rfl (cl_tnN (by omega)) (fun z => by have := Int32.lt_iff_toInt_lt.mp z; have e0 : (0 : Int32).toInt = 0 := rfl; omega) (fun z => by have := Int32.lt_iff_toInt_lt.mp z; have e0 : (0 : Int32).toInt = 0 := rfl; omega) (cl_nn (by omega)) (by rw [q1, z1]; omega) (by rw [q2, z2]; omega) hst hp (kk _ (P.set (Or.inl rfl) (fun _ => ⟨_, rfl⟩) (fun z => absurd z (by decide))))
theorem cl_inS {j : Int32} {a b : Int} (hs6 : s ≤ 6) (B : sf_B a b j) (hj : j < Int32.ofNat s) (ha : 0 ≤ a := by decide) : pm_in j ((n + 1) * s) = true := by
  have b1 := B.1
  have lt := Int32.lt_iff_toInt_lt.mp hj
  rw [sf_ofT (by omega)] at lt
  have q1 : j.toNatClampNeg = j.toInt.toNat := rfl
  have r1 : s ≤ (n + 1) * s := by
    have : 1 * s ≤ (n + 1) * s := Nat.mul_le_mul_right s (by omega)
    omega
  unfold pm_in
  rw [Bool.and_eq_true]
  refine ⟨decide_eq_true (Int32.le_iff_toInt_le.mpr (by have e0 : (0 : Int32).toInt = 0 := rfl; omega)), decide_eq_true (by omega)⟩
theorem cl_leS {k b : Int32} (e : k.toInt = b.toInt + (1 : Int32).toInt) (hb : b < Int32.ofNat n) : k ≤ Int32.ofNat n := by
  have lt := Int32.lt_iff_toInt_lt.mp hb
  have e1 : (1 : Int32).toInt = 1 := rfl
  exact Int32.le_iff_toInt_le.mpr (by omega)
theorem cl_leL (hs6 : s ≤ 6) (hn50 : n ≤ 50) : Int32.ofNat s ≤ Int32.ofNat ((n + 1) * s) := by
  have r1 : s ≤ (n + 1) * s := by
    have : 1 * s ≤ (n + 1) * s := Nat.mul_le_mul_right s (by omega)
    omega
  have r2 : (n + 1) * s ≤ 51 * 6 := Nat.mul_le_mul (by omega) hs6
  exact Int32.le_iff_toInt_le.mpr (by rw [sf_ofT (by omega), sf_ofT (by omega)]; omega)
theorem cl_lenB (hs6 : s ≤ 6) (hn50 : n ≤ 50) : sf_B 0 306 (Int32.ofNat ((n + 1) * s)) := by
  have r2 : (n + 1) * s ≤ 51 * 6 := Nat.mul_le_mul (by omega) hs6
  exact sf_ofB r2 (by decide)
theorem cl_retZ {v : Int32} (h : sf_B 0 1 v) : pm_ret (some .boolean) .ireturn [.int v] = some (some (.int v)) := by
  have h1 := h.1
  have h2 := h.2
  have : v = 0 ∨ v = 1 := by
    rcases (show v.toInt = 0 ∨ v.toInt = 1 by omega) with z | z
    · exact Or.inl (Int32.toInt_inj.mp z)
    · exact Or.inr (Int32.toInt_inj.mp z)
  rcases this with z | z <;> (rw [z]; rfl)
theorem cl_or1 {x y : Int32} (hx : sf_B 0 1 x) (hy : sf_B 0 1 y) : sf_B 0 1 (x ||| y) := by
  have a0 := hx.1
  have a1 := hx.2
  have b0 := hy.1
  have b1 := hy.2
  have qx : x = 0 ∨ x = 1 := by
    rcases (show x.toInt = 0 ∨ x.toInt = 1 by omega) with z | z
    · exact Or.inl (Int32.toInt_inj.mp z)
    · exact Or.inr (Int32.toInt_inj.mp z)
  have qy : y = 0 ∨ y = 1 := by
    rcases (show y.toInt = 0 ∨ y.toInt = 1 by omega) with z | z
    · exact Or.inl (Int32.toInt_inj.mp z)
    · exact Or.inr (Int32.toInt_inj.mp z)
  rcases qx with e | e <;> rcases qy with e' | e' <;> (rw [e, e']; exact ⟨by decide, by decide⟩)
theorem sf_R_ior1 (hM : pm_Mt mid q l) {x y : Int32} (hf : pm_find l pc = some (.ior, L)) (hp : pc + 1 = pc') (hx : sf_B 0 1 x) (hy : sf_B 0 1 y) (k : ∀ z : Int32, sf_B 0 1 z → pm_R d mid pc' ls (.int z :: st) h Q) : pm_R d mid pc ls (.int y :: .int x :: st) h Q :=
  pm_R_op hM hf (st' := .int (x ||| y) :: st) rfl hp (k _ (cl_or1 hx hy))
end
