section
section
/-! texts are made: arrays copied, objects filled -/
variable {d mid pc pc_q : Nat} {ls st : List Value} {h : pm_H} {Q : Option Value → pm_H → Prop} {q : pm_M} {l : List (Nat × Instr × Nat)} {L : Nat}
theorem pm_R_cln (hM : pm_Mt mid q l) {ix a n : Nat} {f : Nat → Int32} (hf : pm_find l pc = some (.invokevirtual ix, L)) (hn : pm_at pm_CL q.2.2.2.2 ix = none) (hX : pm_at pm_XL q.2.2.2.2 ix = some 2) (hc : h.2.2 a = .inl (0, n, .inl f)) (h1 : 16 ≤ a) (h2 : a < h.1) (hs : (st.map fun v => v.category).sum ≤ 8) (hp : pc + 3 = pc_q) (kk : pm_R d mid pc_q ls (.ref h.1 :: st) (pm_push h (.inl (0, n, .inl f)) n) Q) : pm_R d mid pc ls (.ref a :: st) h Q := by
  refine pm_R_nat hM hf rfl hn (st_q := .ref h.1 :: st) (h_q := pm_push h (.inl (0, n, .inl f)) n) ?_ hp kk
  unfold pm_hb
  dsimp only
  rw [hX, hc]
  show (if _ then _ else _) = _
  exact if_pos ⟨rfl, h1, h2, hs⟩
theorem cl_R_minE (hM : pm_Mt mid q l) {ix : Nat} {x y : Int32} (hf : pm_find l pc = some (.invokestatic ix, L)) (hn : pm_at pm_CL q.2.2.2.2 ix = none) (hX : pm_at pm_XL q.2.2.2.2 ix = some 3) (hs : (st.map fun v => v.category).sum ≤ 8) (hp : pc + 3 = pc_q) (kk : pm_R d mid pc_q ls (.int (if y < x then y else x) :: st) h Q) : pm_R d mid pc ls (.int y :: .int x :: st) h Q := by
  refine pm_R_nat hM hf rfl hn (st_q := .int (if y < x then y else x) :: st) (h_q := h) ?_ hp kk
  show (pm_at pm_XL _ ix).bind _ = _
  rw [hX]
  show (if _ then _ else _) = _
  rw [if_pos hs]
theorem cl_push_lt {h : pm_H} {x : pm_E} {n a : Nat} (ha : a < h.1) : (pm_push h x n).2.2 a = h.2.2 a := by
  have : a ≠ h.1 := by omega
  simp [pm_push, va_up, this]
theorem cl_push_eq {h : pm_H} {x : pm_E} {n : Nat} : (pm_push h x n).2.2 h.1 = x := by simp [pm_push, va_up]
theorem cl_tnN {n : Nat} (h : n ≤ 1000000) : (Int32.ofNat n).toNatClampNeg = n := by
  have e : (Int32.ofNat n).toNatClampNeg = (Int32.ofNat n).toInt.toNat := rfl
  rw [e, sf_ofT h]; omega
theorem cl_nn {n : Nat} (h : n ≤ 1000000) : ¬ Int32.ofNat n < 0 := fun z => by
  have := Int32.lt_iff_toInt_lt.mp z
  rw [sf_ofT h] at this
  have e0 : (0 : Int32).toInt = 0 := rfl
  omega
/-- copyOf -/
theorem cl_c45 {a N n : Nat} {f : Nat → Int32} {v : Int32} (ea : h.2.2 a = .inl (0, N, .inl f)) (h16 : 16 ≤ a) (hlt : a < h.1) (hN : N ≤ 200) (hn : n ≤ N) (ev : v = Int32.ofNat n) (K : ∀ (h_q : pm_H) (g : Nat → Int32), h_q.1 = h.1 + 1 → h_q.2.1 = h.2.1 + n → h_q.2.2 h.1 = .inl (0, n, .inl g) → (∀ j, j < n → g j = f j) → (n < N → ∀ j, n ≤ j → g j = 0) → (∀ b, b < h.1 → h_q.2.2 b = h.2.2 b) → Q (some (.ref h.1)) h_q) : pm_R (d + 0) 45 0 [.ref a, .int v, pm_no] [] h Q := by
  subst ev
  refine pm_R_lo pm_M45 (pc_q := 1) rfl rfl rfl ?_
  refine pm_R_lo pm_M45 (pc_q := 2) rfl rfl rfl ?_
  refine pm_R_alen pm_M45 (pc_q := 3) (v := Int32.ofNat N) rfl ea h16 hlt (by decide) rfl rfl ?_
  refine pm_R_icmp pm_M45 (t := 14) (pc_q := 6) rfl rfl rfl (fun c => ?_) (fun c => ?_)
  · have c_q : ¬ Int32.ofNat n = Int32.ofNat N := c
    have hlN : n < N := by
      rcases Nat.lt_or_ge n N with z | z
      · exact z
      · exact absurd (by rw [show n = N by omega]) c_q
    refine pm_R_lo pm_M45 (pc_q := 15) rfl rfl rfl ?_
    refine pm_R_newa pm_M45 (pc_q := 17) (N := n) rfl rfl (cl_nn (by omega)) (cl_tnN (by omega)) (by omega) rfl ?_
    obtain ⟨h1, e1⟩ : ∃ z, pm_push h (.inl (0, pm_newty 0 n)) n = z := ⟨_, rfl⟩
    have a1 : h1.1 = h.1 + 1 := by rw [← e1]; rfl
    have s1 : h1.2.1 = h.2.1 + n := by rw [← e1]; rfl
    have o1 : ∀ b, b < h.1 → h1.2.2 b = h.2.2 b := fun b hb => by rw [← e1]; exact cl_push_lt hb
    have n1 : h1.2.2 h.1 = .inl (0, n, .inl (fun _ => (0 : Int32))) := by rw [← e1]; exact cl_push_eq
    rw [e1]
    refine pm_R_lo pm_M45 (pc_q := 18) (ls_q := [.ref a, .int (Int32.ofNat n), .ref h.1]) (st_q := []) rfl rfl rfl ?_
    refine pm_R_lo pm_M45 (pc_q := 19) rfl rfl rfl ?_
    refine pm_R_op pm_M45 (pc_q := 20) (st_q := [.int 0, .ref a]) rfl rfl rfl ?_
    refine pm_R_lo pm_M45 (pc_q := 21) rfl rfl rfl ?_
    refine pm_R_op pm_M45 (pc_q := 22) (st_q := [.int 0, .ref h.1, .int 0, .ref a]) rfl rfl rfl ?_
    refine pm_R_lo pm_M45 (pc_q := 23) rfl rfl rfl ?_
    refine pm_R_alen pm_M45 (pc_q := 24) (v := Int32.ofNat N) rfl ((o1 a hlt).trans ea) h16 (by omega) (by decide) rfl rfl ?_
    refine pm_R_lo pm_M45 (pc_q := 25) rfl rfl rfl ?_
    refine cl_R_minE pm_M45 (pc_q := 28) rfl rfl rfl (Nat.le_of_ble_eq_true rfl) rfl ?_
    have lt : Int32.ofNat n < Int32.ofNat N := Int32.lt_iff_toInt_lt.mpr (by rw [sf_ofT (by omega), sf_ofT (by omega)]; omega)
    rw [if_pos lt]
    refine pm_R_acp pm_M45 (pc_q := 31) rfl rfl rfl ((o1 a hlt).trans ea) n1 h16 (by omega) (by omega) (by omega) (S := 0) (D := 0) rfl rfl (cl_tnN (by omega)) (by decide) (by decide) (cl_nn (by omega)) (by omega) (by omega) (Nat.le_of_ble_eq_true rfl) rfl ?_
    refine pm_R_lo pm_M45 (pc_q := 32) rfl rfl rfl ?_
    refine pm_R_ret pm_M45 (r := some (.ref h.1)) rfl rfl (K _ _ a1 s1 cl_set_eq (fun j hj => cl_cpI (by omega) hj) (fun _ j hj => cl_cpO (by omega)) (fun b hb => ?_))
    rw [cl_set_ne (by omega)]; exact o1 b hb
  · have c_q : Int32.ofNat n = Int32.ofNat N := Classical.not_not.mp c
    have : n = N := by
      have := congrArg Int32.toInt c_q
      rw [sf_ofT (by omega), sf_ofT (by omega)] at this
      omega
    subst this
    refine pm_R_lo pm_M45 (pc_q := 7) rfl rfl rfl ?_
    refine pm_R_cln pm_M45 (pc_q := 10) rfl rfl rfl ea h16 hlt (Nat.le_of_ble_eq_true rfl) rfl ?_
    refine cl_R_cast pm_M45 (pc_q := 13) rfl rfl cl_push_eq (by omega) (Nat.lt_succ_self _) rfl ?_
    exact pm_R_ret pm_M45 (r := some (.ref h.1)) rfl rfl (K _ f rfl rfl cl_push_eq (fun _ _ => rfl) (fun z => absurd z (Nat.lt_irrefl _)) (fun b hb => cl_push_lt hb))
/-- a ROW is made -/
theorem cl_c47 {t n : Nat} {f : Nat → Int32} {m : Nat → Int32} (e25 : h.2.2 25 = .inr (6, cl_f25 m)) (e26 : h.2.2 26 = .inl (0, 200, .inl f)) (n5 : m 5 = Int32.ofNat n) (n1 : 1 ≤ n) (n12 : n ≤ 12) (hb : ∀ k, k < n → sf_B 0 9 (f k)) (et : h.2.2 t = .inr (5, [.int 0, .null])) (h72 : 72 ≤ t) (ht : h.1 = t + 1) (K : ∀ h_q : pm_H, h_q.1 = t + 2 → h_q.2.1 = h.2.1 + n → (∀ b, b < t → h_q.2.2 b = h.2.2 b) → cl_R h_q.2.2 t → Q none h_q) : pm_R (d + 1) 47 0 [.ref t, .ref 25] [] h Q := by
  refine pm_R_lo pm_M47 (pc_q := 1) rfl rfl rfl ?_
  refine pm_R_obj pm_M47 (pc_q := 4) rfl rfl rfl (Nat.le_of_ble_eq_true rfl) rfl ?_
  refine pm_R_lo pm_M47 (pc_q := 5) rfl rfl rfl ?_
  refine pm_R_lo pm_M47 (pc_q := 6) rfl rfl rfl ?_
  refine pm_R_get pm_M47 (pc_q := 9) (v := .int (Int32.ofNat n)) rfl rfl e25 (by decide) (by omega) (congrArg (fun z => some (Value.int z)) n5) rfl ?_
  refine pm_R_put pm_M47 (pc_q := 12) (fs_q := [.int (Int32.ofNat n), .null]) rfl rfl rfl et (by omega) (by omega) (Nat.le_of_ble_eq_true rfl) rfl (Or.inr ⟨pm_N47_ini, rfl, rfl⟩) rfl rfl ?_
  obtain ⟨h1, e1⟩ : ∃ z, pm_set h t (.inr (5, [.int (Int32.ofNat n), .null])) = z := ⟨_, rfl⟩
  have a1 : h1.1 = t + 1 := by rw [← e1]; exact ht
  have s1 : h1.2.1 = h.2.1 := by rw [← e1]; rfl
  have t1 : h1.2.2 t = .inr (5, [.int (Int32.ofNat n), .null]) := by rw [← e1]; exact cl_set_eq
  have o1 : ∀ b, b ≠ t → h1.2.2 b = h.2.2 b := fun b hb => by rw [← e1]; exact cl_set_ne hb
  rw [e1]
  refine pm_R_lo pm_M47 (pc_q := 13) rfl rfl rfl ?_
  refine pm_R_lo pm_M47 (pc_q := 14) rfl rfl rfl ?_
  refine pm_R_get pm_M47 (pc_q := 17) (v := .ref 26) rfl rfl ((o1 25 (by omega)).trans e25) (by decide) (by omega) rfl rfl ?_
  refine pm_R_lo pm_M47 (pc_q := 18) rfl rfl rfl ?_
  refine pm_R_get pm_M47 (pc_q := 21) (v := .int (Int32.ofNat n)) rfl rfl t1 (by omega) (by omega) rfl rfl ?_
  refine pm_R_cs pm_M47 (pc_q := 24) (ra := [.int (Int32.ofNat n), .ref 26]) (rest := [.ref t]) (ls_q := [.ref 26, .int (Int32.ofNat n), pm_no]) rfl rfl (Or.inl rfl) pm_M45 rfl rfl (Nat.le_of_ble_eq_true rfl) rfl rfl ?_
  refine cl_c45 (d := d) ((o1 26 (by omega)).trans e26) (by decide) (by omega) (by decide) (by omega) rfl (fun h2 g a2 s2 c2 g1 g2 o2 => ?_)
  show pm_R _ 47 24 [.ref t, .ref 25] [.ref h1.1, .ref t] _ _
  refine pm_R_put pm_M47 (pc_q := 27) (fs_q := [.int (Int32.ofNat n), .ref h1.1]) rfl rfl rfl ((o2 t (by omega)).trans t1) (by omega) (by omega) (Nat.le_of_ble_eq_true rfl) rfl (Or.inr ⟨pm_N47_ini, rfl, rfl⟩) rfl rfl ?_
  refine pm_R_ret pm_M47 (r := none) rfl rfl (K _ (by show h2.1 = _; omega) (by show h2.2.1 = _; omega) (fun b hb => ?_) ⟨n, g, n1, n12, ?_, ?_, fun j => ?_⟩)
  · rw [cl_set_ne (by omega), o2 b (by omega), o1 b (by omega)]
  · rw [cl_set_eq, a1]
  · rw [cl_set_ne (by omega), ← a1]; exact c2
  · rcases Nat.lt_or_ge j n with z | z
    · rw [g1 j z]; exact hb j z
    · rw [g2 (by omega) j z]; exact ⟨by decide, by decide⟩
/-- a HOUSE is made -/
theorem cl_c54 {t n : Nat} {f : Nat → Int32} {m : Nat → Int32} (e25 : h.2.2 25 = .inr (6, cl_f25 m)) (e26 : h.2.2 26 = .inl (0, 200, .inl f)) (n5 : m 5 = Int32.ofNat n) (n8 : n ≤ 8) (hb : ∀ k, k < n → sf_B 0 5 (f (4 * k)) ∧ sf_B 0 9 (f (4 * k + 1)) ∧ sf_B (-1) 9 (f (4 * k + 2))) (et : h.2.2 t = .inr (0, [.int 0, .null])) (h72 : 72 ≤ t) (ht : h.1 = t + 1) (K : ∀ h_q : pm_H, h_q.1 = t + 2 → h_q.2.1 = h.2.1 + 4 * n → (∀ b, b < t → h_q.2.2 b = h.2.2 b) → cl_H h_q.2.2 t → Q none h_q) : pm_R (d + 1) 54 0 [.ref t, .ref 25] [] h Q := by
  have i4 : Int32.ofNat n * 4 = Int32.ofNat (4 * n) := by rw [Nat.mul_comm, Int32.ofNat_mul]; rfl
  refine pm_R_lo pm_M54 (pc_q := 1) rfl rfl rfl ?_
  refine pm_R_obj pm_M54 (pc_q := 4) rfl rfl rfl (Nat.le_of_ble_eq_true rfl) rfl ?_
  refine pm_R_lo pm_M54 (pc_q := 5) rfl rfl rfl ?_
  refine pm_R_lo pm_M54 (pc_q := 6) rfl rfl rfl ?_
  refine pm_R_get pm_M54 (pc_q := 9) (v := .int (Int32.ofNat n)) rfl rfl e25 (by decide) (by omega) (congrArg (fun z => some (Value.int z)) n5) rfl ?_
  refine pm_R_put pm_M54 (pc_q := 12) (fs_q := [.int (Int32.ofNat n), .null]) rfl rfl rfl et (by omega) (by omega) (Nat.le_of_ble_eq_true rfl) rfl (Or.inr ⟨pm_N54_ini, rfl, rfl⟩) rfl rfl ?_
  obtain ⟨h1, e1⟩ : ∃ z, pm_set h t (.inr (0, [.int (Int32.ofNat n), .null])) = z := ⟨_, rfl⟩
  have a1 : h1.1 = t + 1 := by rw [← e1]; exact ht
  have s1 : h1.2.1 = h.2.1 := by rw [← e1]; rfl
  have t1 : h1.2.2 t = .inr (0, [.int (Int32.ofNat n), .null]) := by rw [← e1]; exact cl_set_eq
  have o1 : ∀ b, b ≠ t → h1.2.2 b = h.2.2 b := fun b hb => by rw [← e1]; exact cl_set_ne hb
  rw [e1]
  refine pm_R_lo pm_M54 (pc_q := 13) rfl rfl rfl ?_
  refine pm_R_lo pm_M54 (pc_q := 14) rfl rfl rfl ?_
  refine pm_R_get pm_M54 (pc_q := 17) (v := .ref 26) rfl rfl ((o1 25 (by omega)).trans e25) (by decide) (by omega) rfl rfl ?_
  refine pm_R_lo pm_M54 (pc_q := 18) rfl rfl rfl ?_
  refine pm_R_get pm_M54 (pc_q := 21) (v := .int (Int32.ofNat n)) rfl rfl t1 (by omega) (by omega) rfl rfl ?_
  refine pm_R_op pm_M54 (pc_q := 22) (st_q := [.int 4, .int (Int32.ofNat n), .ref 26, .ref t]) rfl rfl rfl ?_
  refine pm_R_op pm_M54 (pc_q := 23) (st_q := [.int (Int32.ofNat (4 * n)), .ref 26, .ref t]) rfl (congrArg (fun z => some [Value.int z, .ref 26, .ref t]) i4) rfl ?_
  refine pm_R_cs pm_M54 (pc_q := 26) (ra := [.int (Int32.ofNat (4 * n)), .ref 26]) (rest := [.ref t]) (ls_q := [.ref 26, .int (Int32.ofNat (4 * n)), pm_no]) rfl rfl (Or.inl rfl) pm_M45 rfl rfl (Nat.le_of_ble_eq_true rfl) rfl rfl ?_
  refine cl_c45 (d := d) ((o1 26 (by omega)).trans e26) (by decide) (by omega) (by decide) (by omega) rfl (fun h2 g a2 s2 c2 g1 g2 o2 => ?_)
  show pm_R _ 54 26 [.ref t, .ref 25] [.ref h1.1, .ref t] _ _
  refine pm_R_put pm_M54 (pc_q := 29) (fs_q := [.int (Int32.ofNat n), .ref h1.1]) rfl rfl rfl ((o2 t (by omega)).trans t1) (by omega) (by omega) (Nat.le_of_ble_eq_true rfl) rfl (Or.inr ⟨pm_N54_ini, rfl, rfl⟩) rfl rfl ?_
  refine pm_R_ret pm_M54 (r := none) rfl rfl (K _ (by show h2.1 = _; omega) (by show h2.2.1 = _; omega) (fun b hb => ?_) ⟨n, g, n8, ?_, ?_, fun k hk => ?_⟩)
  · rw [cl_set_ne (by omega), o2 b (by omega), o1 b (by omega)]
  · rw [cl_set_eq, a1]
  · rw [cl_set_ne (by omega), ← a1]; exact c2
  · rw [g1 _ (by omega), g1 _ (by omega), g1 _ (by omega)]; exact hb k hk
end
end
section
section
/-! a LIST or a MEAL that is being made: its cells lie at t, t + 1 .. -/
variable {d mid pc pc_q : Nat} {ls st : List Value} {h h0 : pm_H} {Q : Option Value → pm_H → Prop} {q : pm_M} {l : List (Nat × Instr × Nat)} {L : Nat} {t rc tc s n : Nat} {gr gt fn fd : Nat → Int32}
def cl_LW (t rc tc : Nat) (gr gt fn : Nat → Int32) (h0 h : pm_H) : Prop := h.1 = t + 6 ∧ h.2.1 = h0.2.1 ∧ (∀ b, b < t → h.2.2 b = h0.2.2 b) ∧ h.2.2 t = .inr (4, [.int (Int32.ofNat rc), .ref (t + 3), .int (Int32.ofNat tc), .ref (t + 4), .ref (t + 5), .ref (t + 1), .ref (t + 2), .int 0]) ∧ (∃ f, h.2.2 (t + 1) = .inl (1, 60, .inr (.inl f))) ∧ (∃ f, h.2.2 (t + 2) = .inl (0, 100, .inl f)) ∧ h.2.2 (t + 3) = .inl (0, 4 * rc, .inl gr) ∧ h.2.2 (t + 4) = .inl (0, 4 * tc, .inl gt) ∧ h.2.2 (t + 5) = .inl (0, 10, .inl fn)
def cl_MW (t s n : Nat) (fd : Nat → Int32) (h0 h : pm_H) : Prop := h.1 = t + 4 ∧ h.2.1 = h0.2.1 ∧ (∀ b, b < t → h.2.2 b = h0.2.2 b) ∧ h.2.2 t = .inr (1, [.int (Int32.ofNat s), .int (Int32.ofNat n), .ref (t + 1), .ref (t + 2), .ref (t + 3)]) ∧ h.2.2 (t + 1) = .inl (0, 4 * n, .inl fd) ∧ (∃ f, h.2.2 (t + 2) = .inl (0, (n + 1) * s, .inl f)) ∧ (∃ f, h.2.2 (t + 3) = .inl (0, n, .inl f))
theorem cl_geT {i : Nat} (h72 : 72 ≤ t) : 16 ≤ t + i := by omega
theorem cl_geT0 (h72 : 72 ≤ t) : 16 ≤ t := by omega
theorem cl_alT {i N : Nat} (e : h.1 = t + N) (hi : i < N) : t + i < h.1 := by omega
theorem cl_alT0 {N : Nat} (e : h.1 = t + N) (hi : 0 < N) : t < h.1 := by omega
theorem cl_LW.set {i : Nat} {x : pm_E} (P : cl_LW t rc tc gr gt fn h0 h) (hi : i = 1 ∨ i = 2) (n1 : i = 1 → ∃ f, x = .inl (1, 60, .inr (.inl f))) (n2 : i = 2 → ∃ f, x = .inl (0, 100, .inl f)) : cl_LW t rc tc gr gt fn h0 (pm_set h (t + i) x) := by
  obtain ⟨p1, p2, p3, p4, p5, p6, p7, p8, p9⟩ := P
  refine ⟨p1, p2, fun b hb => ?_, ?_, ?_, ?_, ?_, ?_, ?_⟩
  · rw [cl_set_ne (by omega)]; exact p3 b hb
  · rw [cl_set_ne (by omega)]; exact p4
  · by_cases e : i = 1
    · subst e; rw [cl_set_eq]; exact n1 rfl
    · rw [cl_set_ne (by omega)]; exact p5
  · by_cases e : i = 2
    · subst e; rw [cl_set_eq]; exact n2 rfl
    · rw [cl_set_ne (by omega)]; exact p6
  · rw [cl_set_ne (by omega)]; exact p7
  · rw [cl_set_ne (by omega)]; exact p8
  · rw [cl_set_ne (by omega)]; exact p9
theorem cl_LW.R1 (P : cl_LW t rc tc gr gt fn h0 h) (hM : pm_Mt mid q l) (h72 : 72 ≤ t) {f : Nat → Int64} {j : Int32} {x : Int64} (hf : pm_find l pc = some (.lastore, L)) (hc : h.2.2 (t + 1) = .inl (1, 60, .inr (.inl f))) (hj : pm_in j 60 = true) (hp : pc + 1 = pc_q) (kk : ∀ h_q, cl_LW t rc tc gr gt fn h0 h_q → pm_R d mid pc_q ls st h_q Q) : pm_R d mid pc ls (.long x :: .int j :: .ref (t + 1) :: st) h Q :=
  pm_R_last hM hf hc (cl_geT h72) (cl_alT P.1 (by decide)) hj hp (kk _ (P.set (Or.inl rfl) (fun _ => ⟨_, rfl⟩) (fun z => absurd z (by decide))))
theorem cl_LW.R2 (P : cl_LW t rc tc gr gt fn h0 h) (hM : pm_Mt mid q l) (h72 : 72 ≤ t) {f : Nat → Int32} {j x : Int32} (hf : pm_find l pc = some (.iastore, L)) (hc : h.2.2 (t + 2) = .inl (0, 100, .inl f)) (hj : pm_in j 100 = true) (hp : pc + 1 = pc_q) (kk : ∀ h_q, cl_LW t rc tc gr gt fn h0 h_q → pm_R d mid pc_q ls st h_q Q) : pm_R d mid pc ls (.int x :: .int j :: .ref (t + 2) :: st) h Q :=
  pm_R_iast hM hf hc (cl_geT h72) (cl_alT P.1 (by decide)) hj hp (kk _ (P.set (Or.inr rfl) (fun z => absurd z (by decide)) (fun _ => ⟨_, rfl⟩)))
theorem cl_MW.set {i : Nat} {x : pm_E} (P : cl_MW t s n fd h0 h) (hi : i = 2 ∨ i = 3) (n1 : i = 2 → ∃ f, x = .inl (0, (n + 1) * s, .inl f)) (n2 : i = 3 → ∃ f, x = .inl (0, n, .inl f)) : cl_MW t s n fd h0 (pm_set h (t + i) x) := by
  obtain ⟨p1, p2, p3, p4, p5, p6, p7⟩ := P
  refine ⟨p1, p2, fun b hb => ?_, ?_, ?_, ?_, ?_⟩
  · rw [cl_set_ne (by omega)]; exact p3 b hb
  · rw [cl_set_ne (by omega)]; exact p4
  · rw [cl_set_ne (by omega)]; exact p5
  · by_cases e : i = 2
    · subst e; rw [cl_set_eq]; exact n1 rfl
    · rw [cl_set_ne (by omega)]; exact p6
  · by_cases e : i = 3
    · subst e; rw [cl_set_eq]; exact n2 rfl
    · rw [cl_set_ne (by omega)]; exact p7
theorem cl_MW.R2 (P : cl_MW t s n fd h0 h) (hM : pm_Mt mid q l) (h72 : 72 ≤ t) {f : Nat → Int32} {j x : Int32} (hf : pm_find l pc = some (.iastore, L)) (hc : h.2.2 (t + 2) = .inl (0, (n + 1) * s, .inl f)) (hj : pm_in j ((n + 1) * s) = true) (hp : pc + 1 = pc_q) (kk : ∀ h_q, cl_MW t s n fd h0 h_q → pm_R d mid pc_q ls st h_q Q) : pm_R d mid pc ls (.int x :: .int j :: .ref (t + 2) :: st) h Q :=
  pm_R_iast hM hf hc (cl_geT h72) (cl_alT P.1 (by decide)) hj hp (kk _ (P.set (Or.inl rfl) (fun _ => ⟨_, rfl⟩) (fun z => absurd z (by decide))))
theorem cl_MW.R3 (P : cl_MW t s n fd h0 h) (hM : pm_Mt mid q l) (h72 : 72 ≤ t) {f : Nat → Int32} {j x : Int32} (hf : pm_find l pc = some (.iastore, L)) (hc : h.2.2 (t + 3) = .inl (0, n, .inl f)) (hj : pm_in j n = true) (hp : pc + 1 = pc_q) (kk : ∀ h_q, cl_MW t s n fd h0 h_q → pm_R d mid pc_q ls st h_q Q) : pm_R d mid pc ls (.int x :: .int j :: .ref (t + 3) :: st) h Q :=
  pm_R_iast hM hf hc (cl_geT h72) (cl_alT P.1 (by decide)) hj hp (kk _ (P.set (Or.inr rfl) (fun z => absurd z (by decide)) (fun _ => ⟨_, rfl⟩)))
theorem cl_MW.Rc (P : cl_MW t s n fd h0 h) (hM : pm_Mt mid q l) (h72 : 72 ≤ t) {ix : Nat} {f : Nat → Int32} {sp dp k k1 : Int32} {a b : Int} (hf : pm_find l pc = some (.invokestatic ix, L)) (hn : pm_at pm_CL q.2.2.2.2 ix = none) (hx : pm_at pm_XL q.2.2.2.2 ix = some 1) (hc : h.2.2 (t + 2) = .inl (0, (n + 1) * s, .inl f)) (e1 : sp.toInt = k.toInt * (Int32.ofNat s).toInt) (ek : k1.toInt = k.toInt + 1) (e2 : dp.toInt = k1.toInt * (Int32.ofNat s).toInt) (hk : k < Int32.ofNat n) (Bk : sf_B a b k) (ha : 0 ≤ a) (hs6 : s ≤ 6) (hn50 : n ≤ 50) (hst : (st.map fun v => v.category).sum ≤ 8) (hp : pc + 3 = pc_q) (kk : ∀ h_q, cl_MW t s n fd h0 h_q → pm_R d mid pc_q ls st h_q Q) : pm_R d mid pc ls (.int (Int32.ofNat s) :: .int dp :: .ref (t + 2) :: .int sp :: .ref (t + 2) :: st) h Q := by
  have b1 := Bk.1
  have lt := Int32.lt_iff_toInt_lt.mp hk
  rw [sf_ofT (by omega)] at lt e1 e2
  have k0 : 0 ≤ k.toInt := by omega
  have q1 : sp.toNatClampNeg = sp.toInt.toNat := rfl
  have q2 : dp.toNatClampNeg = dp.toInt.toNat := rfl
  obtain ⟨kn, hkn⟩ : ∃ kn : Nat, k.toInt = kn := ⟨k.toInt.toNat, by omega⟩
  have z1 : sp.toInt = ((kn * s : Nat) : Int) := by rw [e1, hkn]; simp
  have z2 : dp.toInt = (((kn + 1) * s : Nat) : Int) := by rw [e2, ek, hkn]; simp
  have r1 : kn * s + s ≤ (n + 1) * s := by
    have : (kn + 1) * s ≤ (n + 1) * s := Nat.mul_le_mul_right s (by omega)
    rw [Nat.succ_mul] at this; exact this
  have r2 : (kn + 1) * s + s ≤ (n + 1) * s := by
    have : (kn + 1 + 1) * s ≤ (n + 1) * s := Nat.mul_le_mul_right s (by omega)
    rw [Nat.succ_mul] at this; exact this
  refine pm_R_acp hM hf hn hx hc hc (cl_geT h72) (cl_alT P.1 (by decide)) (cl_geT h72) (cl_alT P.1 (by decide)) rfl rfl (cl_tnN (by omega)) (fun z => by have := Int32.lt_iff_toInt_lt.mp z; have e0 : (0 : Int32).toInt = 0 := rfl; omega) (fun z => by have := Int32.lt_iff_toInt_lt.mp z; have e0 : (0 : Int32).toInt = 0 := rfl; omega) (cl_nn (by omega)) (by rw [q1, z1]; omega) (by rw [q2, z2]; omega) hst hp (kk _ (P.set (Or.inl rfl) (fun _ => ⟨_, rfl⟩) (fun z => absurd z (by decide))))
theorem cl_inS {j : Int32} {a b : Int} (hs6 : s ≤ 6) (B : sf_B a b j) (hj : j < Int32.ofNat s) (ha : 0 ≤ a := by decide) : pm_in j ((n + 1) * s) = true := by
  have b1 := B.1
  have lt := Int32.lt_iff_toInt_lt.mp hj
  rw [sf_ofT (by omega)] at lt
  have q1 : j.toNatClampNeg = j.toInt.toNat := rfl
  have r1 : s ≤ (n + 1) * s := by
    have : 1 * s ≤ (n + 1) * s := Nat.mul_le_mul_right s (by omega)
    omega
  unfold pm_in
  rw [Bool.and_eq_true]
  refine ⟨decide_eq_true (Int32.le_iff_toInt_le.mpr (by have e0 : (0 : Int32).toInt = 0 := rfl; omega)), decide_eq_true (by omega)⟩
theorem cl_leS {k b : Int32} (e : k.toInt = b.toInt + (1 : Int32).toInt) (hb : b < Int32.ofNat n) : k ≤ Int32.ofNat n := by
  have lt := Int32.lt_iff_toInt_lt.mp hb
  have e1 : (1 : Int32).toInt = 1 := rfl
  exact Int32.le_iff_toInt_le.mpr (by omega)
theorem cl_leL (hs6 : s ≤ 6) (hn50 : n ≤ 50) : Int32.ofNat s ≤ Int32.ofNat ((n + 1) * s) := by
  have r1 : s ≤ (n + 1) * s := by
    have : 1 * s ≤ (n + 1) * s := Nat.mul_le_mul_right s (by omega)
    omega
  have r2 : (n + 1) * s ≤ 51 * 6 := Nat.mul_le_mul (by omega) hs6
  exact Int32.le_iff_toInt_le.mpr (by rw [sf_ofT (by omega), sf_ofT (by omega)]; omega)
theorem cl_lenB (hs6 : s ≤ 6) (hn50 : n ≤ 50) : sf_B 0 306 (Int32.ofNat ((n + 1) * s)) := by
  have r2 : (n + 1) * s ≤ 51 * 6 := Nat.mul_le_mul (by omega) hs6
  exact sf_ofB r2 (by decide)
theorem cl_retZ {v : Int32} (h : sf_B 0 1 v) : pm_ret (some .boolean) .ireturn [.int v] = some (some (.int v)) := by
  have h1 := h.1
  have h2 := h.2
  have : v = 0 ∨ v = 1 := by
    rcases (show v.toInt = 0 ∨ v.toInt = 1 by omega) with z | z
    · exact Or.inl (Int32.toInt_inj.mp z)
    · exact Or.inr (Int32.toInt_inj.mp z)
  rcases this with z | z <;> (rw [z]; rfl)
theorem cl_or1 {x y : Int32} (hx : sf_B 0 1 x) (hy : sf_B 0 1 y) : sf_B 0 1 (x ||| y) := by
  have a0 := hx.1
  have a1 := hx.2
  have b0 := hy.1
  have b1 := hy.2
  have qx : x = 0 ∨ x = 1 := by
    rcases (show x.toInt = 0 ∨ x.toInt = 1 by omega) with z | z
    · exact Or.inl (Int32.toInt_inj.mp z)
    · exact Or.inr (Int32.toInt_inj.mp z)
  have qy : y = 0 ∨ y = 1 := by
    rcases (show y.toInt = 0 ∨ y.toInt = 1 by omega) with z | z
    · exact Or.inl (Int32.toInt_inj.mp z)
    · exact Or.inr (Int32.toInt_inj.mp z)
  rcases qx with e | e <;> rcases qy with e_q | e_q <;> (rw [e, e_q]; exact ⟨by decide, by decide⟩)
theorem sf_R_ior1 (hM : pm_Mt mid q l) {x y : Int32} (hf : pm_find l pc = some (.ior, L)) (hp : pc + 1 = pc_q) (hx : sf_B 0 1 x) (hy : sf_B 0 1 y) (k : ∀ z : Int32, sf_B 0 1 z → pm_R d mid pc_q ls (.int z :: st) h Q) : pm_R d mid pc ls (.int y :: .int x :: st) h Q :=
  pm_R_op hM hf (st_q := .int (x ||| y) :: st) rfl hp (k _ (cl_or1 hx hy))
end
end
section
set_option maxRecDepth 100000 in
set_option maxHeartbeats 4000000 in
/-- SilentTable$SignList.wear -/
theorem cl_c46 {d : Nat} {t rc tc : Nat} {gr gt fn : Nat → Int32} {h0 : pm_H} {h : pm_H} {Q : Option Value → pm_H → Prop} {a0 : Int32} (P : cl_LW t rc tc gr gt fn h0 h) (h72 : 72 ≤ t) (hrc : rc ≤ 10) (htc : tc ≤ 16) (hb : ∀ k, k < tc → sf_B 0 9 (gt (4 * k)) ∧ sf_B 0 5 (gt (4 * k + 1)) ∧ sf_B 0 49 (gt (4 * k + 2))) (Ba0 : sf_B 1 9 a0)  (K : ∀ (r : Int32) (h_q : pm_H), cl_LW t rc tc gr gt fn h0 h_q → Q (some (.int r)) h_q) : pm_R (d + 0) 46 0 [.ref t, .int a0, pm_no, pm_no, pm_no, pm_no, pm_no] [] h Q := by
  refine pm_R_op pm_M46 (pc_q := 1) (st_q := [.int 0]) rfl rfl rfl ?_
  refine pm_R_lo pm_M46 (pc_q := 2) (ls_q := [.ref t, .int a0, .int 0, pm_no, pm_no, pm_no, pm_no]) (st_q := []) rfl rfl rfl ?_
  refine pm_R_op pm_M46 (pc_q := 3) (st_q := [.int 0]) rfl rfl rfl ?_
  refine pm_R_lo pm_M46 (pc_q := 4) (ls_q := [.ref t, .int a0, .int 0, .int 0, pm_no, pm_no, pm_no]) (st_q := []) rfl rfl rfl ?_
  have L_990 : ∀ (N : Nat) (h_990 : pm_H) (x2_990 : Int32) (x3_990 : Int32) (g4_990 : Value) (g5_990 : Value) (g6_990 : Value), cl_LW t rc tc gr gt fn h0 h_990 → sf_B 0 1 x2_990 → sf_B 0 10 x3_990 → g4_990.category = 1 → g5_990.category = 1 → g6_990.category = 1 → (10 - x3_990.toInt).toNat = N → pm_R (d + 0) 46 4 [.ref t, .int a0, .int x2_990, .int x3_990, g4_990, g5_990, g6_990] [] h_990 Q := by
    intro N
    induction N using Nat.strongRecOn with
    | ind N ih_990 =>
      intro h_990 x2_990 x3_990 g4_990 g5_990 g6_990 P_990 Bx2_990 Bx3_990 Cg4_990 Cg5_990 Cg6_990 hN_990
      refine pm_R_lo pm_M46 (pc_q := 5) rfl rfl rfl ?_
      refine pm_R_op pm_M46 (pc_q := 7) (st_q := [.int 10, .int x3_990]) rfl rfl rfl ?_
      refine pm_R_icmp pm_M46 (t := 101) (pc_q := 10) rfl rfl rfl (fun c992 => ?_) (fun c992 => ?_)
      · have B993 : sf_B 10 10 x3_990 := sf_leR c992 sf_k10 Bx3_990
        refine pm_R_lo pm_M46 (pc_q := 102) (pm_q46_1 (Nat.le_of_ble_eq_true rfl)) rfl rfl ?_
        exact pm_R_ret pm_M46 (r := some (.int x2_990)) (pm_q46_1 (Nat.le_of_ble_eq_true rfl)) (cl_retZ Bx2_990) (K x2_990 h_990 P_990)
      · have B994 : sf_B 0 9 x3_990 := sf_ltL (Int32.not_le.mp c992) Bx3_990 sf_k10
        refine pm_R_lo pm_M46 (pc_q := 11) rfl rfl rfl ?_
        refine pm_R_get pm_M46 (pc_q := 14) (v := .ref (t + 2)) rfl rfl P_990.2.2.2.1 (cl_geT0 h72) (cl_alT0 P_990.1 (by decide)) rfl rfl ?_
        refine pm_R_lo pm_M46 (pc_q := 15) rfl rfl rfl ?_
        refine pm_R_op pm_M46 (pc_q := 16) (st_q := [.int 1, .int a0, .ref (t + 2)]) rfl rfl rfl ?_
        refine sf_R_isub pm_M46 (pc_q := 17) rfl rfl Ba0 sf_k1 (by decide) (by decide) (fun z995 e996 B997 => ?_)
        refine pm_R_op pm_M46 (pc_q := 19) (st_q := [.int 10, .int z995, .ref (t + 2)]) rfl rfl rfl ?_
        refine sf_R_imul pm_M46 (pc_q := 20) rfl rfl B997 sf_k10 (by decide) (by decide) (by decide) (fun z998 e999 B1000 => ?_)
        refine pm_R_lo pm_M46 (pc_q := 21) rfl rfl rfl ?_
        refine sf_R_iadd pm_M46 (pc_q := 22) rfl rfl B1000 B994 (by decide) (by decide) (fun z1001 e1002 B1003 => ?_)
        obtain ⟨f1004, e1005⟩ := P_990.2.2.2.2.2.1
        obtain ⟨z1006, ez1007⟩ : ∃ y, f1004 (Int32.toNatClampNeg z1001) = y := ⟨_, rfl⟩
        refine pm_R_iald pm_M46 (pc_q := 23) (v := z1006) rfl e1005 (cl_alT (i := 2) P_990.1 (by decide)) (sf_in B1003 (by decide) (by decide)) ez1007 rfl ?_
        refine pm_R_lo pm_M46 (pc_q := 25) (ls_q := [.ref t, .int a0, .int x2_990, .int x3_990, .int z1006, g5_990, g6_990]) (st_q := []) rfl rfl rfl ?_
        refine pm_R_lo pm_M46 (pc_q := 27) rfl rfl rfl ?_
        refine pm_R_lo pm_M46 (pc_q := 29) (ls_q := [.ref t, .int a0, .int x2_990, .int x3_990, .int z1006, .int z1006, g6_990]) (st_q := []) rfl rfl rfl ?_
        refine pm_R_op pm_M46 (pc_q := 30) (st_q := [.int 0]) rfl rfl rfl ?_
        refine pm_R_lo pm_M46 (pc_q := 32) (ls_q := [.ref t, .int a0, .int x2_990, .int x3_990, .int z1006, .int z1006, .int 0]) (st_q := []) rfl rfl rfl ?_
        have L_1185 : ∀ (N : Nat) (x5_1185 : Int32) (x6_1185 : Int32), sf_B (-2147483648) 2147483647 x5_1185 → sf_B 0 10 x6_1185 → (10 - x6_1185.toInt).toNat = N → pm_R (d + 0) 46 32 [.ref t, .int a0, .int x2_990, .int x3_990, .int z1006, .int x5_1185, .int x6_1185] [] h_990 Q := by
          intro N
          induction N using Nat.strongRecOn with
          | ind N ih_1185 =>
            intro x5_1185 x6_1185 Bx5_1185 Bx6_1185 hN_1185
            refine pm_R_lo pm_M46 (pc_q := 34) rfl rfl rfl ?_
            refine pm_R_op pm_M46 (pc_q := 36) (st_q := [.int 10, .int x6_1185]) rfl rfl rfl ?_
            refine pm_R_icmp pm_M46 (t := 67) (pc_q := 39) rfl rfl rfl (fun c1186 => ?_) (fun c1186 => ?_)
            · have B1187 : sf_B 10 10 x6_1185 := sf_leR c1186 sf_k10 Bx6_1185
              refine pm_R_lo pm_M46 (pc_q := 68) rfl rfl rfl ?_
              refine pm_R_get pm_M46 (pc_q := 71) (v := .ref (t + 2)) rfl rfl P_990.2.2.2.1 (cl_geT0 h72) (cl_alT0 P_990.1 (by decide)) rfl rfl ?_
              refine pm_R_lo pm_M46 (pc_q := 72) rfl rfl rfl ?_
              refine pm_R_op pm_M46 (pc_q := 74) (st_q := [.int 10, .int a0, .ref (t + 2)]) rfl rfl rfl ?_
              refine sf_R_imul pm_M46 (pc_q := 75) rfl rfl Ba0 sf_k10 (by decide) (by decide) (by decide) (fun z1188 e1189 B1190 => ?_)
              refine pm_R_lo pm_M46 (pc_q := 76) rfl rfl rfl ?_
              refine sf_R_iadd pm_M46 (pc_q := 77) rfl rfl B1190 B994 (by decide) (by decide) (fun z1191 e1192 B1193 => ?_)
              refine pm_R_lo pm_M46 (pc_q := 79) rfl rfl rfl ?_
              refine P_990.R2 pm_M46 h72 (pc_q := 80) rfl e1005 (sf_in B1193 (by decide) (by decide)) rfl (fun h1194 P1195 => ?_)
              refine pm_R_lo pm_M46 (pc_q := 81) rfl rfl rfl ?_
              refine pm_R_lo pm_M46 (pc_q := 83) rfl rfl rfl ?_
              refine pm_R_lo pm_M46 (pc_q := 85) rfl rfl rfl ?_
              refine pm_R_icmp pm_M46 (t := 92) (pc_q := 88) rfl rfl rfl (fun c1196 => ?_) (fun c1196 => ?_)
              · refine pm_R_op pm_M46 (pc_q := 93) (st_q := [.int 0, .int x2_990]) rfl rfl rfl ?_
                refine sf_R_ior1 pm_M46 (pc_q := 94) rfl rfl Bx2_990 (sf_weak sf_k0 (by decide) (by decide)) (fun z1197 B1199 => ?_)
                refine pm_R_lo pm_M46 (pc_q := 95) (ls_q := [.ref t, .int a0, .int z1197, .int x3_990, .int z1006, .int x5_1185, .int x6_1185]) (st_q := []) rfl rfl rfl ?_
                refine sf_R_iinc pm_M46 (pc_q := 98) (ls_q := fun z => [.ref t, .int a0, .int z1197, .int z, .int z1006, .int x5_1185, .int x6_1185]) rfl B994 rfl (by decide) (by decide) (by decide) (fun _ => rfl) rfl (fun z1200 e1201 B1202 => ?_)
                show pm_R _ 46 98 [.ref t, .int a0, .int z1197, .int z1200, .int z1006, .int x5_1185, .int x6_1185] [] _ _
                refine pm_R_br pm_M46 (pc_q := 4) rfl rfl ?_
                exact ih_990 _ (sf_up hN_990 e1201 B994 (by decide) (by decide)) h1194 z1197 z1200 (.int z1006) (.int x5_1185) (.int x6_1185) P1195 B1199 (sf_weak B1202 (by decide) (by decide)) rfl rfl rfl rfl
              · skip
                refine pm_R_op pm_M46 (pc_q := 89) (st_q := [.int 1, .int x2_990]) rfl rfl rfl ?_
                refine pm_R_br pm_M46 (pc_q := 93) rfl rfl ?_
                refine sf_R_ior1 pm_M46 (pc_q := 94) rfl rfl Bx2_990 (sf_weak sf_k1 (by decide) (by decide)) (fun z1203 B1205 => ?_)
                refine pm_R_lo pm_M46 (pc_q := 95) (ls_q := [.ref t, .int a0, .int z1203, .int x3_990, .int z1006, .int x5_1185, .int x6_1185]) (st_q := []) rfl rfl rfl ?_
                refine sf_R_iinc pm_M46 (pc_q := 98) (ls_q := fun z => [.ref t, .int a0, .int z1203, .int z, .int z1006, .int x5_1185, .int x6_1185]) rfl B994 rfl (by decide) (by decide) (by decide) (fun _ => rfl) rfl (fun z1206 e1207 B1208 => ?_)
                show pm_R _ 46 98 [.ref t, .int a0, .int z1203, .int z1206, .int z1006, .int x5_1185, .int x6_1185] [] _ _
                refine pm_R_br pm_M46 (pc_q := 4) rfl rfl ?_
                exact ih_990 _ (sf_up hN_990 e1207 B994 (by decide) (by decide)) h1194 z1203 z1206 (.int z1006) (.int x5_1185) (.int x6_1185) P1195 B1205 (sf_weak B1208 (by decide) (by decide)) rfl rfl rfl rfl
            · have B1209 : sf_B 0 9 x6_1185 := sf_ltL (Int32.not_le.mp c1186) Bx6_1185 sf_k10
              refine pm_R_lo pm_M46 (pc_q := 41) rfl rfl rfl ?_
              refine pm_R_lo pm_M46 (pc_q := 43) rfl rfl rfl ?_
              refine sf_R_iany pm_M46 (pc_q := 44) (st := []) rfl rfl rfl (fun z1213 => ?_)
              refine pm_R_op pm_M46 (pc_q := 45) (st_q := [.int 1, .int z1213]) rfl rfl rfl ?_
              refine sf_R_iandE pm_M46 (pc_q := 46) rfl rfl sf_k1 (by decide) (fun z1214 e1215 B1216 => ?_)
              refine pm_R_ifc pm_M46 (t := 61) (pc_q := 49) rfl rfl rfl (fun c1217 => ?_) (fun c1217 => ?_)
              · have B1218 : sf_B 0 0 z1214 := sf_eqL c1217 sf_k0
                refine sf_R_iinc pm_M46 (pc_q := 64) (ls_q := fun z => [.ref t, .int a0, .int x2_990, .int x3_990, .int z1006, .int x5_1185, .int z]) rfl B1209 rfl (by decide) (by decide) (by decide) (fun _ => rfl) rfl (fun z1219 e1220 B1221 => ?_)
                show pm_R _ 46 64 [.ref t, .int a0, .int x2_990, .int x3_990, .int z1006, .int x5_1185, .int z1219] [] _ _
                refine pm_R_br pm_M46 (pc_q := 32) rfl rfl ?_
                exact ih_1185 _ (sf_up hN_1185 e1220 B1209 (by decide) (by decide)) x5_1185 z1219 Bx5_1185 (sf_weak B1221 (by decide) (by decide)) rfl
              · have B1222 : sf_B 1 1 z1214 := sf_neL0 c1217 sf_k0 B1216
                refine pm_R_lo pm_M46 (pc_q := 51) rfl rfl rfl ?_
                refine pm_R_lo pm_M46 (pc_q := 52) rfl rfl rfl ?_
                refine pm_R_get pm_M46 (pc_q := 55) (v := .ref (t + 5)) rfl rfl P_990.2.2.2.1 (cl_geT0 h72) (cl_alT0 P_990.1 (by decide)) rfl rfl ?_
                refine pm_R_lo pm_M46 (pc_q := 57) rfl rfl rfl ?_
                obtain ⟨z1223, ez1224⟩ : ∃ y, fn (Int32.toNatClampNeg x6_1185) = y := ⟨_, rfl⟩
                refine pm_R_iald pm_M46 (pc_q := 58) (v := z1223) rfl P_990.2.2.2.2.2.2.2.2 (cl_alT (i := 5) P_990.1 (by decide)) (sf_in B1209 (by decide) (by decide)) ez1224 rfl ?_
                refine sf_R_iany pm_M46 (pc_q := 59) (st := []) rfl rfl rfl (fun z1229 => ?_)
                refine pm_R_lo pm_M46 (pc_q := 61) (ls_q := [.ref t, .int a0, .int x2_990, .int x3_990, .int z1006, .int z1229, .int x6_1185]) (st_q := []) rfl rfl rfl ?_
                refine sf_R_iinc pm_M46 (pc_q := 64) (ls_q := fun z => [.ref t, .int a0, .int x2_990, .int x3_990, .int z1006, .int z1229, .int z]) rfl B1209 rfl (by decide) (by decide) (by decide) (fun _ => rfl) rfl (fun z1230 e1231 B1232 => ?_)
                show pm_R _ 46 64 [.ref t, .int a0, .int x2_990, .int x3_990, .int z1006, .int z1229, .int z1230] [] _ _
                refine pm_R_br pm_M46 (pc_q := 32) rfl rfl ?_
                exact ih_1185 _ (sf_up hN_1185 e1231 B1209 (by decide) (by decide)) z1229 z1230 (sf_any z1229) (sf_weak B1232 (by decide) (by decide)) rfl
        exact L_1185 _ z1006 0 (sf_any z1006) (sf_weak sf_k0 (by decide) (by decide)) rfl
  exact L_990 _ h 0 0 (pm_no) (pm_no) (pm_no) P (sf_weak sf_k0 (by decide) (by decide)) (sf_weak sf_k0 (by decide) (by decide)) rfl rfl rfl rfl

set_option maxRecDepth 100000 in
set_option maxHeartbeats 4000000 in
/-- SilentTable$SignList.<init> -/
theorem cl_c44_l {d : Nat} {t rc tc : Nat} {gr gt fn : Nat → Int32} {h0 : pm_H} {h : pm_H} {Q : Option Value → pm_H → Prop}  (P : cl_LW t rc tc gr gt fn h0 h) (h72 : 72 ≤ t) (hrc : rc ≤ 10) (htc : tc ≤ 16) (hb : ∀ k, k < tc → sf_B 0 9 (gt (4 * k)) ∧ sf_B 0 5 (gt (4 * k + 1)) ∧ sf_B 0 49 (gt (4 * k + 2)))   (K : ∀ (x y : Int32) (h_q : pm_H), cl_LW t rc tc gr gt fn h0 h_q → sf_B 0 9 x → pm_R (d + 1) 44 191 [.ref t, .ref 25, .int x, .int y] [] h_q Q) : pm_R (d + 1) 44 84 [.ref t, .ref 25, pm_no, pm_no] [] h Q := by
  refine pm_R_op pm_M44 (pc_q := 85) (st_q := [.int 0]) rfl rfl rfl ?_
  refine pm_R_lo pm_M44 (pc_q := 86) (ls_q := [.ref t, .ref 25, .int 0, pm_no]) (st_q := []) rfl rfl rfl ?_
  have L_1879 : ∀ (N : Nat) (h_1879 : pm_H) (x2_1879 : Int32), cl_LW t rc tc gr gt fn h0 h_1879 → sf_B 0 16 x2_1879 → (16 - x2_1879.toInt).toNat = N → pm_R (d + 1) 44 86 [.ref t, .ref 25, .int x2_1879, pm_no] [] h_1879 Q := by
    intro N
    induction N using Nat.strongRecOn with
    | ind N ih_1879 =>
      intro h_1879 x2_1879 P_1879 Bx2_1879 hN_1879
      refine pm_R_lo pm_M44 (pc_q := 87) rfl rfl rfl ?_
      refine pm_R_lo pm_M44 (pc_q := 88) rfl rfl rfl ?_
      refine pm_R_get pm_M44 (pc_q := 91) (v := .int (Int32.ofNat tc)) rfl rfl P_1879.2.2.2.1 (cl_geT0 h72) (cl_alT0 P_1879.1 (by decide)) rfl rfl ?_
      refine pm_R_icmp pm_M44 (t := 142) (pc_q := 94) rfl rfl rfl (fun c1881 => ?_) (fun c1881 => ?_)
      · skip
        refine pm_R_op pm_M44 (pc_q := 143) (st_q := [.int 0]) (pm_q44_1 (Nat.le_of_ble_eq_true rfl)) rfl rfl ?_
        refine pm_R_lo pm_M44 (pc_q := 144) (ls_q := [.ref t, .ref 25, .int 0, pm_no]) (st_q := []) (pm_q44_1 (Nat.le_of_ble_eq_true rfl)) rfl rfl ?_
        have L_2151 : ∀ (N : Nat) (h_2151 : pm_H) (x2_2151 : Int32), cl_LW t rc tc gr gt fn h0 h_2151 → sf_B 0 10 x2_2151 → (10 - x2_2151.toInt).toNat = N → pm_R (d + 1) 44 144 [.ref t, .ref 25, .int x2_2151, pm_no] [] h_2151 Q := by
          intro N
          induction N using Nat.strongRecOn with
          | ind N ih_2151 =>
            intro h_2151 x2_2151 P_2151 Bx2_2151 hN_2151
            refine pm_R_lo pm_M44 (pc_q := 145) (pm_q44_1 (Nat.le_of_ble_eq_true rfl)) rfl rfl ?_
            refine pm_R_op pm_M44 (pc_q := 147) (st_q := [.int 10, .int x2_2151]) (pm_q44_1 (Nat.le_of_ble_eq_true rfl)) rfl rfl ?_
            refine pm_R_icmp pm_M44 (t := 165) (pc_q := 150) (pm_q44_1 (Nat.le_of_ble_eq_true rfl)) rfl rfl (fun c2153 => ?_) (fun c2153 => ?_)
            · have B2154 : sf_B 10 10 x2_2151 := sf_leR c2153 sf_k10 Bx2_2151
              refine pm_R_op pm_M44 (pc_q := 166) (st_q := [.int 0]) (pm_q44_1 (Nat.le_of_ble_eq_true rfl)) rfl rfl ?_
              refine pm_R_lo pm_M44 (pc_q := 167) (ls_q := [.ref t, .ref 25, .int 0, pm_no]) (st_q := []) (pm_q44_1 (Nat.le_of_ble_eq_true rfl)) rfl rfl ?_
              refine pm_R_op pm_M44 (pc_q := 168) (st_q := [.int 1]) (pm_q44_1 (Nat.le_of_ble_eq_true rfl)) rfl rfl ?_
              refine pm_R_lo pm_M44 (pc_q := 169) (ls_q := [.ref t, .ref 25, .int 0, .int 1]) (st_q := []) (pm_q44_1 (Nat.le_of_ble_eq_true rfl)) rfl rfl ?_
              have L_2255 : ∀ (N : Nat) (h_2255 : pm_H) (x2_2255 : Int32) (x3_2255 : Int32), cl_LW t rc tc gr gt fn h0 h_2255 → sf_B 0 9 x2_2255 → sf_B 1 10 x3_2255 → (10 - x3_2255.toInt).toNat = N → pm_R (d + 1) 44 169 [.ref t, .ref 25, .int x2_2255, .int x3_2255] [] h_2255 Q := by
                intro N
                induction N using Nat.strongRecOn with
                | ind N ih_2255 =>
                  intro h_2255 x2_2255 x3_2255 P_2255 Bx2_2255 Bx3_2255 hN_2255
                  refine pm_R_lo pm_M44 (pc_q := 170) (pm_q44_1 (Nat.le_of_ble_eq_true rfl)) rfl rfl ?_
                  refine pm_R_op pm_M44 (pc_q := 172) (st_q := [.int 9, .int x3_2255]) (pm_q44_1 (Nat.le_of_ble_eq_true rfl)) rfl rfl ?_
                  refine pm_R_icmp pm_M44 (t := 191) (pc_q := 175) (pm_q44_1 (Nat.le_of_ble_eq_true rfl)) rfl rfl (fun c2257 => ?_) (fun c2257 => ?_)
                  · have B2258 : sf_B 10 10 x3_2255 := sf_ltR c2257 sf_k9 Bx3_2255
                    exact K x2_2255 x3_2255 h_2255 P_2255 Bx2_2255
                  · have B2259 : sf_B 1 9 x3_2255 := sf_leL (Int32.not_lt.mp c2257) Bx3_2255 sf_k9
                    refine pm_R_lo pm_M44 (pc_q := 176) (pm_q44_1 (Nat.le_of_ble_eq_true rfl)) rfl rfl ?_
                    refine pm_R_lo pm_M44 (pc_q := 177) (pm_q44_1 (Nat.le_of_ble_eq_true rfl)) rfl rfl ?_
                    refine pm_R_cv pm_M44 (pc_q := 180) (a := t) (ra := [.int x3_2255]) (rest := []) (ls_q := [.ref t, .int x3_2255, pm_no, pm_no, pm_no, pm_no, pm_no]) (pm_q44_1 (Nat.le_of_ble_eq_true rfl)) rfl (Or.inl rfl) pm_M46 P_2255.2.2.2.1 rfl (cl_geT0 h72) (cl_alT0 P_2255.1 (by decide)) rfl rfl (Nat.le_of_ble_eq_true rfl) rfl rfl ?_
                    refine cl_c46 (d := d + 0) P_2255 h72 hrc htc hb B2259 (fun r2260 h2262 P2263 => ?_)
                    show pm_R _ 44 180 [.ref t, .ref 25, .int x2_2255, .int x3_2255] [.int r2260] _ _
                    refine pm_R_ifc pm_M44 (t := 185) (pc_q := 183) (pm_q44_1 (Nat.le_of_ble_eq_true rfl)) rfl rfl (fun c2264 => ?_) (fun c2264 => ?_)
                    · have B2265 : sf_B 0 0 r2260 := sf_eqL c2264 sf_k0
                      refine sf_R_iinc pm_M44 (pc_q := 188) (ls_q := fun z => [.ref t, .ref 25, .int x2_2255, .int z]) (pm_q44_1 (Nat.le_of_ble_eq_true rfl)) B2259 rfl (by decide) (by decide) (by decide) (fun _ => rfl) rfl (fun z2266 e2267 B2268 => ?_)
                      show pm_R _ 44 188 [.ref t, .ref 25, .int x2_2255, .int z2266] [] _ _
                      refine pm_R_br pm_M44 (pc_q := 169) (pm_q44_1 (Nat.le_of_ble_eq_true rfl)) rfl ?_
                      exact ih_2255 _ (sf_up hN_2255 e2267 B2259 (by decide) (by decide)) h2262 x2_2255 z2266 P2263 Bx2_2255 (sf_weak B2268 (by decide) (by decide)) rfl
                    · skip
                      refine pm_R_lo pm_M44 (pc_q := 184) (pm_q44_1 (Nat.le_of_ble_eq_true rfl)) rfl rfl ?_
                      refine pm_R_lo pm_M44 (pc_q := 185) (ls_q := [.ref t, .ref 25, .int x3_2255, .int x3_2255]) (st_q := []) (pm_q44_1 (Nat.le_of_ble_eq_true rfl)) rfl rfl ?_
                      refine sf_R_iinc pm_M44 (pc_q := 188) (ls_q := fun z => [.ref t, .ref 25, .int x3_2255, .int z]) (pm_q44_1 (Nat.le_of_ble_eq_true rfl)) B2259 rfl (by decide) (by decide) (by decide) (fun _ => rfl) rfl (fun z2269 e2270 B2271 => ?_)
                      show pm_R _ 44 188 [.ref t, .ref 25, .int x3_2255, .int z2269] [] _ _
                      refine pm_R_br pm_M44 (pc_q := 169) (pm_q44_1 (Nat.le_of_ble_eq_true rfl)) rfl ?_
                      exact ih_2255 _ (sf_up hN_2255 e2270 B2259 (by decide) (by decide)) h2262 x3_2255 z2269 P2263 (sf_weak B2259 (by decide) (by decide)) (sf_weak B2271 (by decide) (by decide)) rfl
              exact L_2255 _ h_2151 0 1 P_2151 (sf_weak sf_k0 (by decide) (by decide)) (sf_weak sf_k1 (by decide) (by decide)) rfl
            · have B2272 : sf_B 0 9 x2_2151 := sf_ltL (Int32.not_le.mp c2153) Bx2_2151 sf_k10
              refine pm_R_lo pm_M44 (pc_q := 151) (pm_q44_1 (Nat.le_of_ble_eq_true rfl)) rfl rfl ?_
              refine pm_R_get pm_M44 (pc_q := 154) (v := .ref (t + 2)) (pm_q44_1 (Nat.le_of_ble_eq_true rfl)) rfl P_2151.2.2.2.1 (cl_geT0 h72) (cl_alT0 P_2151.1 (by decide)) rfl rfl ?_
              refine pm_R_lo pm_M44 (pc_q := 155) (pm_q44_1 (Nat.le_of_ble_eq_true rfl)) rfl rfl ?_
              refine pm_R_op pm_M44 (pc_q := 156) (st_q := [.int 1, .int x2_2151, .ref (t + 2)]) (pm_q44_1 (Nat.le_of_ble_eq_true rfl)) rfl rfl ?_
              refine pm_R_lo pm_M44 (pc_q := 157) (pm_q44_1 (Nat.le_of_ble_eq_true rfl)) rfl rfl ?_
              refine sf_R_shl10 pm_M44 (pc_q := 158) (pm_q44_1 (Nat.le_of_ble_eq_true rfl)) rfl B2272 (fun z2273 B2275 => ?_)
              obtain ⟨f2276, e2277⟩ := P_2151.2.2.2.2.2.1
              refine P_2151.R2 pm_M44 h72 (pc_q := 159) (pm_q44_1 (Nat.le_of_ble_eq_true rfl)) e2277 (sf_in B2272 (by decide) (by decide)) rfl (fun h2278 P2279 => ?_)
              refine sf_R_iinc pm_M44 (pc_q := 162) (ls_q := fun z => [.ref t, .ref 25, .int z, pm_no]) (pm_q44_1 (Nat.le_of_ble_eq_true rfl)) B2272 rfl (by decide) (by decide) (by decide) (fun _ => rfl) rfl (fun z2280 e2281 B2282 => ?_)
              show pm_R _ 44 162 [.ref t, .ref 25, .int z2280, pm_no] [] _ _
              refine pm_R_br pm_M44 (pc_q := 144) (pm_q44_1 (Nat.le_of_ble_eq_true rfl)) rfl ?_
              exact ih_2151 _ (sf_up hN_2151 e2281 B2272 (by decide) (by decide)) h2278 z2280 P2279 (sf_weak B2282 (by decide) (by decide)) rfl
        exact L_2151 _ h_1879 0 P_1879 (sf_weak sf_k0 (by decide) (by decide)) rfl
      · have B2283 : sf_B 0 15 x2_1879 := sf_ltL (Int32.not_le.mp c1881) Bx2_1879 (sf_ofB htc (by decide))
        have B2284 : sf_B 1 16 (Int32.ofNat tc) := sf_ltR (Int32.not_le.mp c1881) Bx2_1879 (sf_ofB htc (by decide))
        refine pm_R_lo pm_M44 (pc_q := 95) rfl rfl rfl ?_
        refine pm_R_get pm_M44 (pc_q := 98) (v := .ref (t + 1)) rfl rfl P_1879.2.2.2.1 (cl_geT0 h72) (cl_alT0 P_1879.1 (by decide)) rfl rfl ?_
        refine pm_R_lo pm_M44 (pc_q := 99) rfl rfl rfl ?_
        refine pm_R_get pm_M44 (pc_q := 102) (v := .ref (t + 4)) rfl rfl P_1879.2.2.2.1 (cl_geT0 h72) (cl_alT0 P_1879.1 (by decide)) rfl rfl ?_
        refine pm_R_lo pm_M44 (pc_q := 103) rfl rfl rfl ?_
        refine pm_R_op pm_M44 (pc_q := 104) (st_q := [.int 4, .int x2_1879, .ref (t + 4), .ref (t + 1)]) rfl rfl rfl ?_
        refine sf_R_imul pm_M44 (pc_q := 105) rfl rfl B2283 sf_k4 (by decide) (by decide) (by decide) (fun z2285 e2286 B2287 => ?_)
        have q2288 := cl_in4 (n := tc) (Nat.le_trans htc (by decide)) (Int32.not_le.mp c1881) (cl_aux5 _ _ e2286) B2283 (by decide) (by decide)
        obtain ⟨z2289, ez2290⟩ : ∃ y, gt (Int32.toNatClampNeg z2285) = y := ⟨_, rfl⟩
        have B2291 : sf_B 0 9 z2289 := ez2290 ▸ q2288.2.2 ▸ (hb _ q2288.2.1).1
        refine pm_R_iald pm_M44 (pc_q := 106) (v := z2289) rfl P_1879.2.2.2.2.2.2.2.1 (cl_alT (i := 4) P_1879.1 (by decide)) q2288.1 ez2290 rfl ?_
        refine pm_R_op pm_M44 (pc_q := 108) (st_q := [.int 6, .int z2289, .ref (t + 1)]) rfl rfl rfl ?_
        refine sf_R_imul pm_M44 (pc_q := 109) rfl rfl B2291 sf_k6 (by decide) (by decide) (by decide) (fun z2292 e2293 B2294 => ?_)
        refine pm_R_lo pm_M44 (pc_q := 110) rfl rfl rfl ?_
        refine pm_R_get pm_M44 (pc_q := 113) (v := .ref (t + 4)) rfl rfl P_1879.2.2.2.1 (cl_geT0 h72) (cl_alT0 P_1879.1 (by decide)) rfl rfl ?_
        refine pm_R_lo pm_M44 (pc_q := 114) (pm_q44_1 (Nat.le_of_ble_eq_true rfl)) rfl rfl ?_
        refine pm_R_op pm_M44 (pc_q := 115) (st_q := [.int 4, .int x2_1879, .ref (t + 4), .int z2292, .ref (t + 1)]) (pm_q44_1 (Nat.le_of_ble_eq_true rfl)) rfl rfl ?_
        refine sf_R_imulV pm_M44 (pc_q := 116) (pm_q44_1 (Nat.le_of_ble_eq_true rfl)) rfl B2283 sf_k4 (by decide) (by decide) (by decide) e2286 ?_
        refine pm_R_op pm_M44 (pc_q := 117) (st_q := [.int 1, .int z2285, .ref (t + 4), .int z2292, .ref (t + 1)]) (pm_q44_1 (Nat.le_of_ble_eq_true rfl)) rfl rfl ?_
        refine sf_R_iadd pm_M44 (pc_q := 118) (pm_q44_1 (Nat.le_of_ble_eq_true rfl)) rfl B2287 sf_k1 (by decide) (by decide) (fun z2295 e2296 B2297 => ?_)
        have q2298 := cl_in4 (n := tc) (Nat.le_trans htc (by decide)) (Int32.not_le.mp c1881) (cl_aux7 _ _ _ e2286 e2296) B2283 (by decide) (by decide)
        obtain ⟨z2299, ez2300⟩ : ∃ y, gt (Int32.toNatClampNeg z2295) = y := ⟨_, rfl⟩
        have B2301 : sf_B 0 5 z2299 := ez2300 ▸ q2298.2.2 ▸ (hb _ q2298.2.1).2.1
        refine pm_R_iald pm_M44 (pc_q := 119) (v := z2299) (pm_q44_1 (Nat.le_of_ble_eq_true rfl)) P_1879.2.2.2.2.2.2.2.1 (cl_alT (i := 4) P_1879.1 (by decide)) q2298.1 ez2300 rfl ?_
        refine sf_R_iadd pm_M44 (pc_q := 120) (pm_q44_1 (Nat.le_of_ble_eq_true rfl)) rfl B2294 B2301 (by decide) (by decide) (fun z2302 e2303 B2304 => ?_)
        refine pm_R_op pm_M44 (pc_q := 121) (st_q := [.int z2302, .ref (t + 1), .int z2302, .ref (t + 1)]) (pm_q44_1 (Nat.le_of_ble_eq_true rfl)) rfl rfl ?_
        obtain ⟨f2305, e2306⟩ := P_1879.2.2.2.2.1
        obtain ⟨z2307, ez2308⟩ : ∃ y, f2305 (Int32.toNatClampNeg z2302) = y := ⟨_, rfl⟩
        refine pm_R_lald pm_M44 (pc_q := 122) (v := z2307) (pm_q44_1 (Nat.le_of_ble_eq_true rfl)) e2306 (cl_geT (i := 1) h72) (cl_alT (i := 1) P_1879.1 (by decide)) (sf_in B2304 (by decide) (by decide)) ez2308 rfl ?_
        refine pm_R_op pm_M44 (pc_q := 123) (st_q := [.long 1, .long z2307, .int z2302, .ref (t + 1)]) (pm_q44_1 (Nat.le_of_ble_eq_true rfl)) rfl rfl ?_
        refine pm_R_lo pm_M44 (pc_q := 124) (pm_q44_1 (Nat.le_of_ble_eq_true rfl)) rfl rfl ?_
        refine pm_R_get pm_M44 (pc_q := 127) (v := .ref (t + 4)) (pm_q44_1 (Nat.le_of_ble_eq_true rfl)) rfl P_1879.2.2.2.1 (cl_geT0 h72) (cl_alT0 P_1879.1 (by decide)) rfl rfl ?_
        refine pm_R_lo pm_M44 (pc_q := 128) (pm_q44_1 (Nat.le_of_ble_eq_true rfl)) rfl rfl ?_
        refine pm_R_op pm_M44 (pc_q := 129) (st_q := [.int 4, .int x2_1879, .ref (t + 4), .long 1, .long z2307, .int z2302, .ref (t + 1)]) (pm_q44_1 (Nat.le_of_ble_eq_true rfl)) rfl rfl ?_
        refine sf_R_imulV pm_M44 (pc_q := 130) (pm_q44_1 (Nat.le_of_ble_eq_true rfl)) rfl B2283 sf_k4 (by decide) (by decide) (by decide) e2286 ?_
        refine pm_R_op pm_M44 (pc_q := 131) (st_q := [.int 2, .int z2285, .ref (t + 4), .long 1, .long z2307, .int z2302, .ref (t + 1)]) (pm_q44_1 (Nat.le_of_ble_eq_true rfl)) rfl rfl ?_
        refine sf_R_iadd pm_M44 (pc_q := 132) (pm_q44_1 (Nat.le_of_ble_eq_true rfl)) rfl B2287 sf_k2 (by decide) (by decide) (fun z2310 e2311 B2312 => ?_)
        have q2313 := cl_in4 (n := tc) (Nat.le_trans htc (by decide)) (Int32.not_le.mp c1881) (cl_aux6 _ _ _ e2286 e2311) B2283 (by decide) (by decide)
        obtain ⟨z2314, ez2315⟩ : ∃ y, gt (Int32.toNatClampNeg z2310) = y := ⟨_, rfl⟩
        have B2316 : sf_B 0 49 z2314 := ez2315 ▸ q2313.2.2 ▸ (hb _ q2313.2.1).2.2
        refine pm_R_iald pm_M44 (pc_q := 133) (v := z2314) (pm_q44_1 (Nat.le_of_ble_eq_true rfl)) P_1879.2.2.2.2.2.2.2.1 (cl_alT (i := 4) P_1879.1 (by decide)) q2313.1 ez2315 rfl ?_
        refine sf_R_lany pm_M44 (pc_q := 134) (st := [.long z2307, .int z2302, .ref (t + 1)]) (pm_q44_1 (Nat.le_of_ble_eq_true rfl)) rfl rfl (fun z2317 => ?_)
        refine sf_R_lany pm_M44 (pc_q := 135) (st := [.int z2302, .ref (t + 1)]) (pm_q44_1 (Nat.le_of_ble_eq_true rfl)) rfl rfl (fun z2318 => ?_)
        refine P_1879.R1 pm_M44 h72 (pc_q := 136) (pm_q44_1 (Nat.le_of_ble_eq_true rfl)) e2306 (sf_in B2304 (by decide) (by decide)) rfl (fun h2319 P2320 => ?_)
        refine sf_R_iinc pm_M44 (pc_q := 139) (ls_q := fun z => [.ref t, .ref 25, .int z, pm_no]) (pm_q44_1 (Nat.le_of_ble_eq_true rfl)) B2283 rfl (by decide) (by decide) (by decide) (fun _ => rfl) rfl (fun z2321 e2322 B2323 => ?_)
        show pm_R _ 44 139 [.ref t, .ref 25, .int z2321, pm_no] [] _ _
        refine pm_R_br pm_M44 (pc_q := 86) (pm_q44_1 (Nat.le_of_ble_eq_true rfl)) rfl ?_
        exact ih_1879 _ (sf_up hN_1879 e2322 B2283 (by decide) (by decide)) h2319 z2321 P2320 (sf_weak B2323 (by decide) (by decide)) rfl
  exact L_1879 _ h 0 P (sf_weak sf_k0 (by decide) (by decide)) rfl

set_option maxRecDepth 100000 in
set_option maxHeartbeats 4000000 in
/-- java/util/Arrays.fill -/
theorem cl_c49_m {d : Nat} {t s n : Nat} {fd : Nat → Int32} {h0 : pm_H} {h : pm_H} {Q : Option Value → pm_H → Prop} {a3 : Int32} (P : cl_MW t s n fd h0 h) (h72 : 72 ≤ t) (hs1 : 1 ≤ s) (hs6 : s ≤ 6) (hn50 : n ≤ 50) (hb : ∀ k, k < n → sf_B 0 2 (fd (4 * k)) ∧ (0 ≤ (fd (4 * k + 1)).toInt ∧ (fd (4 * k + 1)).toInt < s) ∧ sf_B (-1) 9 (fd (4 * k + 2)) ∧ ((fd (4 * k)).toInt = 2 → 0 ≤ (fd (4 * k + 2)).toInt))   (K : ∀ (h_q : pm_H), cl_MW t s n fd h0 h_q → Q none h_q) : pm_R (d + 1) 49 0 [.ref (t + 2), .int 0, .int (Int32.ofNat s), .int a3, pm_no] [] h Q := by
  refine pm_R_lo pm_M49 (pc_q := 1) rfl rfl rfl ?_
  obtain ⟨f1, e2⟩ := P.2.2.2.2.2.1
  refine pm_R_alen pm_M49 (pc_q := 2) (v := (Int32.ofNat ((n + 1) * s))) rfl e2 (cl_geT (i := 2) h72) (cl_alT (i := 2) P.1 (by decide)) (by decide) rfl rfl ?_
  refine pm_R_lo pm_M49 (pc_q := 3) rfl rfl rfl ?_
  refine pm_R_lo pm_M49 (pc_q := 4) rfl rfl rfl ?_
  refine pm_R_cs pm_M49 (pc_q := 7) (ra := [.int (Int32.ofNat s), .int 0, .int (Int32.ofNat ((n + 1) * s))]) (rest := []) (ls_q := [.int (Int32.ofNat ((n + 1) * s)), .int 0, .int (Int32.ofNat s)]) rfl rfl (Or.inl rfl) pm_M50 rfl rfl (Nat.le_of_ble_eq_true rfl) rfl rfl ?_
  refine pm_R_lo pm_M50 (pc_q := 1) rfl rfl rfl ?_
  refine pm_R_lo pm_M50 (pc_q := 2) rfl rfl rfl ?_
  refine pm_R_icmp pm_M50 (t := 46) (pc_q := 5) rfl rfl rfl (fun c3 => ?_) (fun c3 => absurd (Int32.not_le.mp c3) (sf_nlt (sf_ofB1 hs6 hs1 (by decide)) sf_k0 (by decide)))
  skip
  refine pm_R_lo pm_M50 (pc_q := 47) rfl rfl rfl ?_
  refine pm_R_br pm_M50 (pc_q := 59) (st_q := []) rfl rfl ?_
  refine pm_R_lo pm_M50 (pc_q := 60) rfl rfl rfl ?_
  refine pm_R_lo pm_M50 (pc_q := 61) rfl rfl rfl ?_
  refine pm_R_icmp pm_M50 (t := 73) (pc_q := 64) rfl rfl rfl (fun c4 => ?_) (fun c4 => absurd (Int32.not_le.mp c4) (Int32.not_lt.mpr (cl_leL hs6 hn50)))
  have B5 : sf_B 1 306 (Int32.ofNat ((n + 1) * s)) := sf_leR c4 (sf_ofB1 hs6 hs1 (by decide)) (cl_lenB hs6 hn50)
  refine pm_R_ret pm_M50 (r := none) rfl rfl ?_
  show pm_R _ 49 7 [.ref (t + 2), .int 0, .int (Int32.ofNat s), .int a3, pm_no] [] _ _
  refine pm_R_lo pm_M49 (pc_q := 8) rfl rfl rfl ?_
  refine pm_R_lo pm_M49 (pc_q := 10) (ls_q := [.ref (t + 2), .int 0, .int (Int32.ofNat s), .int a3, .int 0]) (st_q := []) rfl rfl rfl ?_
  have L_76 : ∀ (N : Nat) (h_76 : pm_H) (x4_76 : Int32), cl_MW t s n fd h0 h_76 → sf_B 0 6 x4_76 → (6 - x4_76.toInt).toNat = N → pm_R (d + 1) 49 10 [.ref (t + 2), .int 0, .int (Int32.ofNat s), .int a3, .int x4_76] [] h_76 Q := by
    intro N
    induction N using Nat.strongRecOn with
    | ind N ih_76 =>
      intro h_76 x4_76 P_76 Bx4_76 hN_76
      refine pm_R_lo pm_M49 (pc_q := 12) rfl rfl rfl ?_
      refine pm_R_lo pm_M49 (pc_q := 13) rfl rfl rfl ?_
      refine pm_R_icmp pm_M49 (t := 27) (pc_q := 16) rfl rfl rfl (fun c78 => ?_) (fun c78 => ?_)
      · have B79 : sf_B 1 6 x4_76 := sf_leR c78 (sf_ofB1 hs6 hs1 (by decide)) Bx4_76
        exact pm_R_ret pm_M49 (r := none) rfl rfl (K h_76 P_76)
      · have B80 : sf_B 0 5 x4_76 := sf_ltL (Int32.not_le.mp c78) Bx4_76 (sf_ofB1 hs6 hs1 (by decide))
        refine pm_R_lo pm_M49 (pc_q := 17) rfl rfl rfl ?_
        refine pm_R_lo pm_M49 (pc_q := 19) rfl rfl rfl ?_
        refine pm_R_lo pm_M49 (pc_q := 20) rfl rfl rfl ?_
        obtain ⟨f81, e82⟩ := P_76.2.2.2.2.2.1
        refine P_76.R2 pm_M49 h72 (pc_q := 21) rfl e82 (cl_inS hs6 B80 (Int32.not_le.mp c78)) rfl (fun h83 P84 => ?_)
        refine sf_R_iinc pm_M49 (pc_q := 24) (ls_q := fun z => [.ref (t + 2), .int 0, .int (Int32.ofNat s), .int a3, .int z]) rfl B80 rfl (by decide) (by decide) (by decide) (fun _ => rfl) rfl (fun z85 e86 B87 => ?_)
        show pm_R _ 49 24 [.ref (t + 2), .int 0, .int (Int32.ofNat s), .int a3, .int z85] [] _ _
        refine pm_R_br pm_M49 (pc_q := 10) rfl rfl ?_
        exact ih_76 _ (sf_up hN_76 e86 B80 (by decide) (by decide)) h83 z85 P84 (sf_weak B87 (by decide) (by decide)) rfl
  exact L_76 _ h 0 P (sf_weak sf_k0 (by decide) (by decide)) rfl

set_option maxRecDepth 100000 in
set_option maxHeartbeats 4000000 in
/-- SilentTable$Meal.lookersAt -/
theorem cl_c53 {d : Nat} {t s n : Nat} {fd : Nat → Int32} {h0 : pm_H} {h : pm_H} {Q : Option Value → pm_H → Prop} {a0 : Int32} {a1 : Int32} (P : cl_MW t s n fd h0 h) (h72 : 72 ≤ t) (hs1 : 1 ≤ s) (hs6 : s ≤ 6) (hn50 : n ≤ 50) (hb : ∀ k, k < n → sf_B 0 2 (fd (4 * k)) ∧ (0 ≤ (fd (4 * k + 1)).toInt ∧ (fd (4 * k + 1)).toInt < s) ∧ sf_B (-1) 9 (fd (4 * k + 2)) ∧ ((fd (4 * k)).toInt = 2 → 0 ≤ (fd (4 * k + 2)).toInt)) (Ba1 : sf_B 0 49 a1) (Q1 : a1 ≤ Int32.ofNat n) (K : ∀ (r : Int32) (h_q : pm_H), cl_MW t s n fd h0 h_q → sf_B 0 1023 r → Q (some (.int r)) h_q) : pm_R (d + 0) 53 0 [.ref t, .int a0, .int a1, pm_no, pm_no] [] h Q := by
  refine pm_R_op pm_M53 (pc_q := 1) (st_q := [.int 0]) rfl rfl rfl ?_
  refine pm_R_lo pm_M53 (pc_q := 2) (ls_q := [.ref t, .int a0, .int a1, .int 0, pm_no]) (st_q := []) rfl rfl rfl ?_
  refine pm_R_op pm_M53 (pc_q := 3) (st_q := [.int 0]) rfl rfl rfl ?_
  refine pm_R_lo pm_M53 (pc_q := 5) (ls_q := [.ref t, .int a0, .int a1, .int 0, .int 0]) (st_q := []) rfl rfl rfl ?_
  have L_173 : ∀ (N : Nat) (x3_173 : Int32) (x4_173 : Int32), sf_B 0 1023 x3_173 → sf_B 0 6 x4_173 → (6 - x4_173.toInt).toNat = N → pm_R (d + 0) 53 5 [.ref t, .int a0, .int a1, .int x3_173, .int x4_173] [] h Q := by
    intro N
    induction N using Nat.strongRecOn with
    | ind N ih_173 =>
      intro x3_173 x4_173 Bx3_173 Bx4_173 hN_173
      refine pm_R_lo pm_M53 (pc_q := 7) rfl rfl rfl ?_
      refine pm_R_lo pm_M53 (pc_q := 8) rfl rfl rfl ?_
      refine pm_R_get pm_M53 (pc_q := 11) (v := .int (Int32.ofNat s)) rfl rfl P.2.2.2.1 (cl_geT0 h72) (cl_alT0 P.1 (by decide)) rfl rfl ?_
      refine pm_R_icmp pm_M53 (t := 45) (pc_q := 14) rfl rfl rfl (fun c174 => ?_) (fun c174 => ?_)
      · have B175 : sf_B 1 6 x4_173 := sf_leR c174 (sf_ofB1 hs6 hs1 (by decide)) Bx4_173
        refine pm_R_lo pm_M53 (pc_q := 46) rfl rfl rfl ?_
        exact pm_R_ret pm_M53 (r := some (.int x3_173)) rfl (pm_ret_i _) (K x3_173 h P Bx3_173)
      · have B176 : sf_B 0 5 x4_173 := sf_ltL (Int32.not_le.mp c174) Bx4_173 (sf_ofB1 hs6 hs1 (by decide))
        refine pm_R_lo pm_M53 (pc_q := 15) rfl rfl rfl ?_
        refine pm_R_get pm_M53 (pc_q := 18) (v := .ref (t + 2)) rfl rfl P.2.2.2.1 (cl_geT0 h72) (cl_alT0 P.1 (by decide)) rfl rfl ?_
        refine pm_R_lo pm_M53 (pc_q := 19) rfl rfl rfl ?_
        refine pm_R_lo pm_M53 (pc_q := 20) rfl rfl rfl ?_
        refine pm_R_get pm_M53 (pc_q := 23) (v := .int (Int32.ofNat s)) rfl rfl P.2.2.2.1 (cl_geT0 h72) (cl_alT0 P.1 (by decide)) rfl rfl ?_
        refine sf_R_imul pm_M53 (pc_q := 24) rfl rfl Ba1 (sf_ofB1 hs6 hs1 (by decide)) (by decide) (by decide) (by decide) (fun z177 e178 B179 => ?_)
        refine pm_R_lo pm_M53 (pc_q := 26) rfl rfl rfl ?_
        refine sf_R_iadd pm_M53 (pc_q := 27) rfl rfl B179 B176 (by decide) (by decide) (fun z180 e181 B182 => ?_)
        obtain ⟨f183, e184⟩ := P.2.2.2.2.2.1
        obtain ⟨z185, ez186⟩ : ∃ y, f183 (Int32.toNatClampNeg z180) = y := ⟨_, rfl⟩
        refine pm_R_iald pm_M53 (pc_q := 28) (v := z185) rfl e184 (cl_alT (i := 2) P.1 (by decide)) (cl_inG (s := s) (n := n) hs6 hn50 e181 e178 Q1 (cl_ltN hs6 (Int32.not_le.mp c174)) Ba1 B176 (by decide) (by decide)) ez186 rfl ?_
        refine pm_R_lo pm_M53 (pc_q := 29) rfl rfl rfl ?_
        refine pm_R_icmp pm_M53 (t := 39) (pc_q := 32) rfl rfl rfl (fun c188 => ?_) (fun c188 => ?_)
        · skip
          refine sf_R_iinc pm_M53 (pc_q := 42) (ls_q := fun z => [.ref t, .int a0, .int a1, .int x3_173, .int z]) rfl B176 rfl (by decide) (by decide) (by decide) (fun _ => rfl) rfl (fun z189 e190 B191 => ?_)
          show pm_R _ 53 42 [.ref t, .int a0, .int a1, .int x3_173, .int z189] [] _ _
          refine pm_R_br pm_M53 (pc_q := 5) rfl rfl ?_
          exact ih_173 _ (sf_up hN_173 e190 B176 (by decide) (by decide)) x3_173 z189 Bx3_173 (sf_weak B191 (by decide) (by decide)) rfl
        · refine pm_R_lo pm_M53 (pc_q := 33) rfl rfl rfl ?_
          refine pm_R_op pm_M53 (pc_q := 34) (st_q := [.int 1, .int x3_173]) rfl rfl rfl ?_
          refine pm_R_lo pm_M53 (pc_q := 36) rfl rfl rfl ?_
          refine sf_R_shl10 pm_M53 (pc_q := 37) rfl rfl (sf_weak B176 (by decide) (by decide)) (fun z192 B194 => ?_)
          refine sf_R_ior10 pm_M53 (pc_q := 38) rfl rfl Bx3_173 B194 (fun z195 B197 => ?_)
          refine pm_R_lo pm_M53 (pc_q := 39) (ls_q := [.ref t, .int a0, .int a1, .int z195, .int x4_173]) (st_q := []) rfl rfl rfl ?_
          refine sf_R_iinc pm_M53 (pc_q := 42) (ls_q := fun z => [.ref t, .int a0, .int a1, .int z195, .int z]) rfl B176 rfl (by decide) (by decide) (by decide) (fun _ => rfl) rfl (fun z198 e199 B200 => ?_)
          show pm_R _ 53 42 [.ref t, .int a0, .int a1, .int z195, .int z198] [] _ _
          refine pm_R_br pm_M53 (pc_q := 5) rfl rfl ?_
          exact ih_173 _ (sf_up hN_173 e199 B176 (by decide) (by decide)) z195 z198 B197 (sf_weak B200 (by decide) (by decide)) rfl
  exact L_173 _ 0 0 (sf_weak sf_k0 (by decide) (by decide)) (sf_weak sf_k0 (by decide) (by decide)) rfl

set_option maxRecDepth 100000 in
set_option maxHeartbeats 4000000 in
/-- SilentTable$Meal.<init> -/
theorem cl_c48_l {d : Nat} {t s n : Nat} {fd : Nat → Int32} {h0 : pm_H} {h : pm_H} {Q : Option Value → pm_H → Prop}  (P : cl_MW t s n fd h0 h) (h72 : 72 ≤ t) (hs1 : 1 ≤ s) (hs6 : s ≤ 6) (hn50 : n ≤ 50) (hb : ∀ k, k < n → sf_B 0 2 (fd (4 * k)) ∧ (0 ≤ (fd (4 * k + 1)).toInt ∧ (fd (4 * k + 1)).toInt < s) ∧ sf_B (-1) 9 (fd (4 * k + 2)) ∧ ((fd (4 * k)).toInt = 2 → 0 ≤ (fd (4 * k + 2)).toInt))   (K : ∀ (h_q : pm_H), cl_MW t s n fd h0 h_q → Q none h_q) : pm_R (d + 2) 48 64 [.ref t, .ref 25, pm_no] [] h Q := by
  refine pm_R_lo pm_M48 (pc_q := 65) rfl rfl rfl ?_
  refine pm_R_get pm_M48 (pc_q := 68) (v := .ref (t + 2)) rfl rfl P.2.2.2.1 (cl_geT0 h72) (cl_alT0 P.1 (by decide)) rfl rfl ?_
  refine pm_R_op pm_M48 (pc_q := 69) (st_q := [.int 0, .ref (t + 2)]) rfl rfl rfl ?_
  refine pm_R_lo pm_M48 (pc_q := 70) rfl rfl rfl ?_
  refine pm_R_get pm_M48 (pc_q := 73) (v := .int (Int32.ofNat s)) rfl rfl P.2.2.2.1 (cl_geT0 h72) (cl_alT0 P.1 (by decide)) rfl rfl ?_
  refine pm_R_op pm_M48 (pc_q := 74) (st_q := [.int (-1), .int (Int32.ofNat s), .int 0, .ref (t + 2)]) rfl rfl rfl ?_
  refine pm_R_cs pm_M48 (pc_q := 77) (ra := [.int (-1), .int (Int32.ofNat s), .int 0, .ref (t + 2)]) (rest := []) (ls_q := [.ref (t + 2), .int 0, .int (Int32.ofNat s), .int (-1), pm_no]) rfl rfl (Or.inl rfl) pm_M49 rfl rfl (Nat.le_of_ble_eq_true rfl) rfl rfl ?_
  refine cl_c49_m (d := d + 0) P h72 hs1 hs6 hn50 hb  (fun h3 P4 => ?_)
  show pm_R _ 48 77 [.ref t, .ref 25, pm_no] [] _ _
  refine pm_R_op pm_M48 (pc_q := 78) (st_q := [.int 0]) rfl rfl rfl ?_
  refine pm_R_lo pm_M48 (pc_q := 79) (ls_q := [.ref t, .ref 25, .int 0]) (st_q := []) rfl rfl rfl ?_
  have L_360 : ∀ (N : Nat) (h_360 : pm_H) (x2_360 : Int32), cl_MW t s n fd h0 h_360 → sf_B 0 50 x2_360 → (50 - x2_360.toInt).toNat = N → pm_R (d + 2) 48 79 [.ref t, .ref 25, .int x2_360] [] h_360 Q := by
    intro N
    induction N using Nat.strongRecOn with
    | ind N ih_360 =>
      intro h_360 x2_360 P_360 Bx2_360 hN_360
      refine pm_R_lo pm_M48 (pc_q := 80) rfl rfl rfl ?_
      refine pm_R_lo pm_M48 (pc_q := 81) rfl rfl rfl ?_
      refine pm_R_get pm_M48 (pc_q := 84) (v := .int (Int32.ofNat n)) rfl rfl P_360.2.2.2.1 (cl_geT0 h72) (cl_alT0 P_360.1 (by decide)) rfl rfl ?_
      refine pm_R_icmp pm_M48 (t := 178) (pc_q := 87) rfl rfl rfl (fun c362 => ?_) (fun c362 => ?_)
      · skip
        exact pm_R_ret pm_M48 (r := none) (pm_q48_1 (Nat.le_of_ble_eq_true rfl)) rfl (K h_360 P_360)
      · have B363 : sf_B 0 49 x2_360 := sf_ltL (Int32.not_le.mp c362) Bx2_360 (sf_ofB hn50 (by decide))
        have B364 : sf_B 1 50 (Int32.ofNat n) := sf_ltR (Int32.not_le.mp c362) Bx2_360 (sf_ofB hn50 (by decide))
        refine pm_R_lo pm_M48 (pc_q := 88) rfl rfl rfl ?_
        refine pm_R_get pm_M48 (pc_q := 91) (v := .ref (t + 2)) rfl rfl P_360.2.2.2.1 (cl_geT0 h72) (cl_alT0 P_360.1 (by decide)) rfl rfl ?_
        refine pm_R_lo pm_M48 (pc_q := 92) rfl rfl rfl ?_
        refine pm_R_lo pm_M48 (pc_q := 93) rfl rfl rfl ?_
        refine pm_R_get pm_M48 (pc_q := 96) (v := .int (Int32.ofNat s)) rfl rfl P_360.2.2.2.1 (cl_geT0 h72) (cl_alT0 P_360.1 (by decide)) rfl rfl ?_
        refine sf_R_imul pm_M48 (pc_q := 97) rfl rfl B363 (sf_ofB1 hs6 hs1 (by decide)) (by decide) (by decide) (by decide) (fun z365 e366 B367 => ?_)
        refine pm_R_lo pm_M48 (pc_q := 98) rfl rfl rfl ?_
        refine pm_R_get pm_M48 (pc_q := 101) (v := .ref (t + 2)) rfl rfl P_360.2.2.2.1 (cl_geT0 h72) (cl_alT0 P_360.1 (by decide)) rfl rfl ?_
        refine pm_R_lo pm_M48 (pc_q := 102) rfl rfl rfl ?_
        refine pm_R_op pm_M48 (pc_q := 103) (st_q := [.int 1, .int x2_360, .ref (t + 2), .int z365, .ref (t + 2)]) rfl rfl rfl ?_
        refine sf_R_iadd pm_M48 (pc_q := 104) rfl rfl B363 sf_k1 (by decide) (by decide) (fun z368 e369 B370 => ?_)
        refine pm_R_lo pm_M48 (pc_q := 105) rfl rfl rfl ?_
        refine pm_R_get pm_M48 (pc_q := 108) (v := .int (Int32.ofNat s)) rfl rfl P_360.2.2.2.1 (cl_geT0 h72) (cl_alT0 P_360.1 (by decide)) rfl rfl ?_
        refine sf_R_imul pm_M48 (pc_q := 109) (pm_q48_1 (Nat.le_of_ble_eq_true rfl)) rfl B370 (sf_ofB1 hs6 hs1 (by decide)) (by decide) (by decide) (by decide) (fun z371 e372 B373 => ?_)
        refine pm_R_lo pm_M48 (pc_q := 110) (pm_q48_1 (Nat.le_of_ble_eq_true rfl)) rfl rfl ?_
        refine pm_R_get pm_M48 (pc_q := 113) (v := .int (Int32.ofNat s)) (pm_q48_1 (Nat.le_of_ble_eq_true rfl)) rfl P_360.2.2.2.1 (cl_geT0 h72) (cl_alT0 P_360.1 (by decide)) rfl rfl ?_
        obtain ⟨f374, e375⟩ := P_360.2.2.2.2.2.1
        refine P_360.Rc pm_M48 h72 (pc_q := 116) (pm_q48_1 (Nat.le_of_ble_eq_true rfl)) rfl rfl e375 e366 e369 e372 (Int32.not_le.mp c362) B363 (by decide) hs6 hn50 (Nat.le_of_ble_eq_true rfl) rfl (fun h376 P377 => ?_)
        refine pm_R_lo pm_M48 (pc_q := 117) (pm_q48_1 (Nat.le_of_ble_eq_true rfl)) rfl rfl ?_
        refine pm_R_lo pm_M48 (pc_q := 118) (pm_q48_1 (Nat.le_of_ble_eq_true rfl)) rfl rfl ?_
        refine pm_R_cv pm_M48 (pc_q := 121) (a := t) (ra := [.int x2_360]) (rest := []) (ls_q := [.ref t, .int x2_360]) (pm_q48_1 (Nat.le_of_ble_eq_true rfl)) rfl (Or.inl rfl) pm_M51 P377.2.2.2.1 rfl (cl_geT0 h72) (cl_alT0 P377.1 (by decide)) rfl rfl (Nat.le_of_ble_eq_true rfl) rfl rfl ?_
        refine pm_R_lo pm_M51 (pc_q := 1) rfl rfl rfl ?_
        refine pm_R_get pm_M51 (pc_q := 4) (v := .ref (t + 1)) rfl rfl P377.2.2.2.1 (cl_geT0 h72) (cl_alT0 P377.1 (by decide)) rfl rfl ?_
        refine pm_R_lo pm_M51 (pc_q := 5) rfl rfl rfl ?_
        refine pm_R_op pm_M51 (pc_q := 6) (st_q := [.int 4, .int x2_360, .ref (t + 1)]) rfl rfl rfl ?_
        refine sf_R_imul pm_M51 (pc_q := 7) rfl rfl B363 sf_k4 (by decide) (by decide) (by decide) (fun z378 e379 B380 => ?_)
        have q381 := cl_in4 (n := n) (Nat.le_trans hn50 (by decide)) (Int32.not_le.mp c362) (cl_aux5 _ _ e379) B363 (by decide) (by decide)
        obtain ⟨z382, ez383⟩ : ∃ y, fd (Int32.toNatClampNeg z378) = y := ⟨_, rfl⟩
        have B384 : sf_B 0 2 z382 := ez383 ▸ q381.2.2 ▸ (hb _ q381.2.1).1
        refine pm_R_iald pm_M51 (pc_q := 8) (v := z382) rfl P377.2.2.2.2.1 (cl_alT (i := 1) P377.1 (by decide)) q381.1 ez383 rfl ?_
        refine pm_R_op pm_M51 (pc_q := 9) (st_q := [.int 2, .int z382]) rfl rfl rfl ?_
        refine pm_R_icmp pm_M51 (t := 16) (pc_q := 12) rfl rfl rfl (fun c385 => ?_) (fun c385 => ?_)
        · have B386 : sf_B 0 1 z382 := sf_neH0 c385 sf_k2 B384
          refine pm_R_op pm_M51 (pc_q := 17) (st_q := [.int 0]) rfl rfl rfl ?_
          refine pm_R_ret pm_M51 (r := some (.int 0)) rfl rfl ?_
          show pm_R _ 48 121 [.ref t, .ref 25, .int x2_360] [.int 0] _ _
          refine pm_R_br pm_M48 (pc_q := 143) (st_q := []) (pm_q48_1 (Nat.le_of_ble_eq_true rfl)) rfl ?_
          refine pm_R_lo pm_M48 (pc_q := 144) (pm_q48_1 (Nat.le_of_ble_eq_true rfl)) rfl rfl ?_
          refine pm_R_get pm_M48 (pc_q := 147) (v := .ref (t + 2)) (pm_q48_1 (Nat.le_of_ble_eq_true rfl)) rfl P377.2.2.2.1 (cl_geT0 h72) (cl_alT0 P377.1 (by decide)) rfl rfl ?_
          refine pm_R_lo pm_M48 (pc_q := 148) (pm_q48_1 (Nat.le_of_ble_eq_true rfl)) rfl rfl ?_
          refine pm_R_op pm_M48 (pc_q := 149) (st_q := [.int 1, .int x2_360, .ref (t + 2)]) (pm_q48_1 (Nat.le_of_ble_eq_true rfl)) rfl rfl ?_
          refine sf_R_iaddV pm_M48 (pc_q := 150) (pm_q48_1 (Nat.le_of_ble_eq_true rfl)) rfl B363 sf_k1 (by decide) (by decide) e369 ?_
          refine pm_R_lo pm_M48 (pc_q := 151) (pm_q48_1 (Nat.le_of_ble_eq_true rfl)) rfl rfl ?_
          refine pm_R_get pm_M48 (pc_q := 154) (v := .int (Int32.ofNat s)) (pm_q48_1 (Nat.le_of_ble_eq_true rfl)) rfl P377.2.2.2.1 (cl_geT0 h72) (cl_alT0 P377.1 (by decide)) rfl rfl ?_
          refine sf_R_imulV pm_M48 (pc_q := 155) (pm_q48_1 (Nat.le_of_ble_eq_true rfl)) rfl B370 (sf_ofB1 hs6 hs1 (by decide)) (by decide) (by decide) (by decide) e372 ?_
          refine pm_R_lo pm_M48 (pc_q := 156) (pm_q48_1 (Nat.le_of_ble_eq_true rfl)) rfl rfl ?_
          refine pm_R_lo pm_M48 (pc_q := 157) (pm_q48_1 (Nat.le_of_ble_eq_true rfl)) rfl rfl ?_
          refine pm_R_cv pm_M48 (pc_q := 160) (a := t) (ra := [.int x2_360]) (rest := [.int z371, .ref (t + 2)]) (ls_q := [.ref t, .int x2_360]) (pm_q48_1 (Nat.le_of_ble_eq_true rfl)) rfl (Or.inl rfl) pm_M52 P377.2.2.2.1 rfl (cl_geT0 h72) (cl_alT0 P377.1 (by decide)) rfl rfl (Nat.le_of_ble_eq_true rfl) rfl rfl ?_
          refine pm_R_lo pm_M52 (pc_q := 1) rfl rfl rfl ?_
          refine pm_R_get pm_M52 (pc_q := 4) (v := .ref (t + 1)) rfl rfl P377.2.2.2.1 (cl_geT0 h72) (cl_alT0 P377.1 (by decide)) rfl rfl ?_
          refine pm_R_lo pm_M52 (pc_q := 5) rfl rfl rfl ?_
          refine pm_R_op pm_M52 (pc_q := 6) (st_q := [.int 4, .int x2_360, .ref (t + 1)]) rfl rfl rfl ?_
          refine sf_R_imulV pm_M52 (pc_q := 7) rfl rfl B363 sf_k4 (by decide) (by decide) (by decide) e379 ?_
          refine pm_R_op pm_M52 (pc_q := 8) (st_q := [.int 1, .int z378, .ref (t + 1)]) rfl rfl rfl ?_
          refine sf_R_iadd pm_M52 (pc_q := 9) rfl rfl B380 sf_k1 (by decide) (by decide) (fun z387 e388 B389 => ?_)
          have q390 := cl_in4 (n := n) (Nat.le_trans hn50 (by decide)) (Int32.not_le.mp c362) (cl_aux7 _ _ _ e379 e388) B363 (by decide) (by decide)
          obtain ⟨z391, ez392⟩ : ∃ y, fd (Int32.toNatClampNeg z387) = y := ⟨_, rfl⟩
          have B393 : sf_B 0 5 z391 := ez392 ▸ q390.2.2 ▸ (cl_seat (hb _ q390.2.1).2.1 hs6)
          refine pm_R_iald pm_M52 (pc_q := 10) (v := z391) rfl P377.2.2.2.2.1 (cl_alT (i := 1) P377.1 (by decide)) q390.1 ez392 rfl ?_
          refine pm_R_ret pm_M52 (r := some (.int z391)) rfl (pm_ret_i _) ?_
          show pm_R _ 48 160 [.ref t, .ref 25, .int x2_360] [.int z391, .int z371, .ref (t + 2)] _ _
          refine sf_R_iadd pm_M48 (pc_q := 161) (pm_q48_1 (Nat.le_of_ble_eq_true rfl)) rfl B373 B393 (by decide) (by decide) (fun z394 e395 B396 => ?_)
          refine pm_R_lo pm_M48 (pc_q := 162) (pm_q48_1 (Nat.le_of_ble_eq_true rfl)) rfl rfl ?_
          refine pm_R_get pm_M48 (pc_q := 165) (v := .ref (t + 1)) (pm_q48_1 (Nat.le_of_ble_eq_true rfl)) rfl P377.2.2.2.1 (cl_geT0 h72) (cl_alT0 P377.1 (by decide)) rfl rfl ?_
          refine pm_R_lo pm_M48 (pc_q := 166) (pm_q48_1 (Nat.le_of_ble_eq_true rfl)) rfl rfl ?_
          refine pm_R_op pm_M48 (pc_q := 167) (st_q := [.int 4, .int x2_360, .ref (t + 1), .int z394, .ref (t + 2)]) (pm_q48_1 (Nat.le_of_ble_eq_true rfl)) rfl rfl ?_
          refine sf_R_imulV pm_M48 (pc_q := 168) (pm_q48_1 (Nat.le_of_ble_eq_true rfl)) rfl B363 sf_k4 (by decide) (by decide) (by decide) e379 ?_
          refine pm_R_op pm_M48 (pc_q := 169) (st_q := [.int 2, .int z378, .ref (t + 1), .int z394, .ref (t + 2)]) (pm_q48_1 (Nat.le_of_ble_eq_true rfl)) rfl rfl ?_
          refine sf_R_iadd pm_M48 (pc_q := 170) (pm_q48_1 (Nat.le_of_ble_eq_true rfl)) rfl B380 sf_k2 (by decide) (by decide) (fun z397 e398 B399 => ?_)
          have q400 := cl_in4 (n := n) (Nat.le_trans hn50 (by decide)) (Int32.not_le.mp c362) (cl_aux6 _ _ _ e379 e398) B363 (by decide) (by decide)
          obtain ⟨z401, ez402⟩ : ∃ y, fd (Int32.toNatClampNeg z397) = y := ⟨_, rfl⟩
          have B403 : sf_B (-1) 9 z401 := ez402 ▸ q400.2.2 ▸ (hb _ q400.2.1).2.2.1
          refine pm_R_iald pm_M48 (pc_q := 171) (v := z401) (pm_q48_1 (Nat.le_of_ble_eq_true rfl)) P377.2.2.2.2.1 (cl_alT (i := 1) P377.1 (by decide)) q400.1 ez402 rfl ?_
          obtain ⟨f404, e405⟩ := P377.2.2.2.2.2.1
          refine P377.R2 pm_M48 h72 (pc_q := 172) (pm_q48_1 (Nat.le_of_ble_eq_true rfl)) e405 (cl_inG (s := s) (n := n) hs6 hn50 e395 e372 (cl_leS e369 (Int32.not_le.mp c362)) (ez392 ▸ q390.2.2 ▸ (hb _ q390.2.1).2.1.2) B370 B393 (by decide) (by decide)) rfl (fun h406 P407 => ?_)
          refine sf_R_iinc pm_M48 (pc_q := 175) (ls_q := fun z => [.ref t, .ref 25, .int z]) (pm_q48_1 (Nat.le_of_ble_eq_true rfl)) B363 rfl (by decide) (by decide) (by decide) (fun _ => rfl) rfl (fun z408 e409 B410 => ?_)
          show pm_R _ 48 175 [.ref t, .ref 25, .int z408] [] _ _
          refine pm_R_br pm_M48 (pc_q := 79) (pm_q48_1 (Nat.le_of_ble_eq_true rfl)) rfl ?_
          exact ih_360 _ (sf_up hN_360 e409 B363 (by decide) (by decide)) h406 z408 P407 (sf_weak B410 (by decide) (by decide)) rfl
        · have B411 : sf_B 2 2 z382 := sf_eqL (Classical.not_not.mp c385) sf_k2
          refine pm_R_op pm_M51 (pc_q := 13) (st_q := [.int 1]) rfl rfl rfl ?_
          refine pm_R_br pm_M51 (pc_q := 17) rfl rfl ?_
          refine pm_R_ret pm_M51 (r := some (.int 1)) rfl rfl ?_
          show pm_R _ 48 121 [.ref t, .ref 25, .int x2_360] [.int 1] _ _
          refine pm_R_br pm_M48 (pc_q := 124) (st_q := []) (pm_q48_1 (Nat.le_of_ble_eq_true rfl)) rfl ?_
          refine pm_R_lo pm_M48 (pc_q := 125) (pm_q48_1 (Nat.le_of_ble_eq_true rfl)) rfl rfl ?_
          refine pm_R_get pm_M48 (pc_q := 128) (v := .ref (t + 3)) (pm_q48_1 (Nat.le_of_ble_eq_true rfl)) rfl P377.2.2.2.1 (cl_geT0 h72) (cl_alT0 P377.1 (by decide)) rfl rfl ?_
          refine pm_R_lo pm_M48 (pc_q := 129) (pm_q48_1 (Nat.le_of_ble_eq_true rfl)) rfl rfl ?_
          refine pm_R_lo pm_M48 (pc_q := 130) (pm_q48_1 (Nat.le_of_ble_eq_true rfl)) rfl rfl ?_
          refine pm_R_lo pm_M48 (pc_q := 131) (pm_q48_1 (Nat.le_of_ble_eq_true rfl)) rfl rfl ?_
          refine pm_R_lo pm_M48 (pc_q := 132) (pm_q48_1 (Nat.le_of_ble_eq_true rfl)) rfl rfl ?_
          refine pm_R_cv pm_M48 (pc_q := 135) (a := t) (ra := [.int x2_360]) (rest := [.ref t, .int x2_360, .ref (t + 3)]) (ls_q := [.ref t, .int x2_360]) (pm_q48_1 (Nat.le_of_ble_eq_true rfl)) rfl (Or.inl rfl) pm_M52 P377.2.2.2.1 rfl (cl_geT0 h72) (cl_alT0 P377.1 (by decide)) rfl rfl (Nat.le_of_ble_eq_true rfl) rfl rfl ?_
          refine pm_R_lo pm_M52 (pc_q := 1) rfl rfl rfl ?_
          refine pm_R_get pm_M52 (pc_q := 4) (v := .ref (t + 1)) rfl rfl P377.2.2.2.1 (cl_geT0 h72) (cl_alT0 P377.1 (by decide)) rfl rfl ?_
          refine pm_R_lo pm_M52 (pc_q := 5) rfl rfl rfl ?_
          refine pm_R_op pm_M52 (pc_q := 6) (st_q := [.int 4, .int x2_360, .ref (t + 1)]) rfl rfl rfl ?_
          refine sf_R_imulV pm_M52 (pc_q := 7) rfl rfl B363 sf_k4 (by decide) (by decide) (by decide) e379 ?_
          refine pm_R_op pm_M52 (pc_q := 8) (st_q := [.int 1, .int z378, .ref (t + 1)]) rfl rfl rfl ?_
          refine sf_R_iadd pm_M52 (pc_q := 9) rfl rfl B380 sf_k1 (by decide) (by decide) (fun z412 e413 B414 => ?_)
          have q415 := cl_in4 (n := n) (Nat.le_trans hn50 (by decide)) (Int32.not_le.mp c362) (cl_aux7 _ _ _ e379 e413) B363 (by decide) (by decide)
          obtain ⟨z416, ez417⟩ : ∃ y, fd (Int32.toNatClampNeg z412) = y := ⟨_, rfl⟩
          have B418 : sf_B 0 5 z416 := ez417 ▸ q415.2.2 ▸ (cl_seat (hb _ q415.2.1).2.1 hs6)
          refine pm_R_iald pm_M52 (pc_q := 10) (v := z416) rfl P377.2.2.2.2.1 (cl_alT (i := 1) P377.1 (by decide)) q415.1 ez417 rfl ?_
          refine pm_R_ret pm_M52 (r := some (.int z416)) rfl (pm_ret_i _) ?_
          show pm_R _ 48 135 [.ref t, .ref 25, .int x2_360] [.int z416, .ref t, .int x2_360, .ref (t + 3)] _ _
          refine pm_R_lo pm_M48 (pc_q := 136) (pm_q48_1 (Nat.le_of_ble_eq_true rfl)) rfl rfl ?_
          refine pm_R_cv pm_M48 (pc_q := 139) (a := t) (ra := [.int x2_360, .int z416]) (rest := [.int x2_360, .ref (t + 3)]) (ls_q := [.ref t, .int z416, .int x2_360, pm_no, pm_no]) (pm_q48_1 (Nat.le_of_ble_eq_true rfl)) rfl (Or.inl rfl) pm_M53 P377.2.2.2.1 rfl (cl_geT0 h72) (cl_alT0 P377.1 (by decide)) rfl rfl (Nat.le_of_ble_eq_true rfl) rfl rfl ?_
          refine cl_c53 (d := d + 1) P377 h72 hs1 hs6 hn50 hb B363 (Int32.le_of_lt (Int32.not_le.mp c362)) (fun r419 h421 P422 B420 => ?_)
          show pm_R _ 48 139 [.ref t, .ref 25, .int x2_360] [.int r419, .int x2_360, .ref (t + 3)] _ _
          obtain ⟨f423, e424⟩ := P422.2.2.2.2.2.2
          have q425 := cl_in1 (n := n) (Nat.le_trans hn50 (by decide)) (Int32.not_le.mp c362) B363 (by decide)
          refine P422.R3 pm_M48 h72 (pc_q := 140) (pm_q48_1 (Nat.le_of_ble_eq_true rfl)) e424 q425.1 rfl (fun h426 P427 => ?_)
          refine pm_R_br pm_M48 (pc_q := 172) (pm_q48_1 (Nat.le_of_ble_eq_true rfl)) rfl ?_
          refine sf_R_iinc pm_M48 (pc_q := 175) (ls_q := fun z => [.ref t, .ref 25, .int z]) (pm_q48_1 (Nat.le_of_ble_eq_true rfl)) B363 rfl (by decide) (by decide) (by decide) (fun _ => rfl) rfl (fun z428 e429 B430 => ?_)
          show pm_R _ 48 175 [.ref t, .ref 25, .int z428] [] _ _
          refine pm_R_br pm_M48 (pc_q := 79) (pm_q48_1 (Nat.le_of_ble_eq_true rfl)) rfl ?_
          exact ih_360 _ (sf_up hN_360 e429 B363 (by decide) (by decide)) h426 z428 P427 (sf_weak B430 (by decide) (by decide)) rfl
  exact L_360 _ h3 0 P4 (sf_weak sf_k0 (by decide) (by decide)) rfl
end
