section
/-! texts are made: arrays copied, objects filled -/
variable {d mid pc pc' : Nat} {ls st : List Value} {h : pm_H} {Q : Option Value → pm_H → Prop} {q : pm_M} {l : List (Nat × Instr × Nat)} {L : Nat}
theorem pm_R_cln (hM : pm_Mt mid q l) {ix a n : Nat} {f : Nat → Int32} (hf : pm_find l pc = some (.invokevirtual ix, L)) (hn : pm_at pm_CL q.2.2.2.2 ix = none) (hX : pm_at pm_XL q.2.2.2.2 ix = some 2) (hc : h.2.2 a = .inl (0, n, .inl f)) (h1 : 16 ≤ a) (h2 : a < h.1) (hs : (st.map fun v => v.category).sum ≤ 8) (hp : pc + 3 = pc') (kk : pm_R d mid pc' ls (.ref h.1 :: st) (pm_push h (.inl (0, n, .inl f)) n) Q) : pm_R d mid pc ls (.ref a :: st) h Q := by
  refine pm_R_nat hM hf rfl hn (st' := .ref h.1 :: st) (h' := pm_push h (.inl (0, n, .inl f)) n) ?_ hp kk
  unfold pm_hb
  dsimp only
  rw [hX, hc]
  show (if _ then _ else _) = _
  exact if_pos ⟨rfl, h1, h2, hs⟩
theorem cl_R_minE (hM : pm_Mt mid q l) {ix : Nat} {x y : Int32} (hf : pm_find l pc = some (.invokestatic ix, L)) (hn : pm_at pm_CL q.2.2.2.2 ix = none) (hX : pm_at pm_XL q.2.2.2.2 ix = some 3) (hs : (st.map fun v => v.category).sum ≤ 8) (hp : pc + 3 = pc') (kk : pm_R d mid pc' ls (.int (if y < x then y else x) :: st) h Q) : pm_R d mid pc ls (.int y :: .int x :: st) h Q := by
  refine pm_R_nat hM hf rfl hn (st' := .int (if y < x then y else x) :: st) (h' := h) ?_ hp kk
  show (pm_at pm_XL _ ix).bind _ = _
  rw [hX]
  show (if _ then _ else _) = _
  rw [if_pos hs]
theorem cl_push_lt {h : pm_H} {x : pm_E} {n a : Nat} (ha : a < h.1) : (pm_push h x n).2.2 a = h.2.2 a := by
  have : a ≠ h.1 := by omega
  simp [pm_push, va_up, this]
theorem cl_push_eq {h : pm_H} {x : pm_E} {n : Nat} : (pm_push h x n).2.2 h.1 = x := by simp [pm_push, va_up]
theorem cl_tnN {n : Nat} (h : n ≤ 1000000) : (Int32.ofNat n).toNatClampNeg = n := by
  have e : (Int32.ofNat n).toNatClampNeg = (Int32.ofNat n).toInt.toNat := rfl
  rw [e, sf_ofT h]; omega
theorem cl_nn {n : Nat} (h : n ≤ 1000000) : ¬ Int32.ofNat n < 0 := fun z => by
  have := Int32.lt_iff_toInt_lt.mp z
  rw [sf_ofT h] at this
  have e0 : (0 : Int32).toInt = 0 := rfl
  omega
/-- copyOf -/
theorem cl_c45 {a N n : Nat} {f : Nat → Int32} {v : Int32} (ea : h.2.2 a = .inl (0, N, .inl f)) (h16 : 16 ≤ a) (hlt : a < h.1) (hN : N ≤ 200) (hn : n ≤ N) (ev : v = Int32.ofNat n) (K : ∀ (h' : pm_H) (g : Nat → Int32), h'.1 = h.1 + 1 → h'.2.1 = h.2.1 + n → h'.2.2 h.1 = .inl (0, n, .inl g) → (∀ j, j < n → g j = f j) → (n < N → ∀ j, n ≤ j → g j = 0) → (∀ b, b < h.1 → h'.2.2 b = h.2.2 b) → Q (some (.ref h.1)) h') : pm_R (d + 0) 45 0 [.ref a, .int v, pm_no] [] h Q := by
  subst ev
  refine pm_R_lo pm_M45 (pc' := 1) rfl rfl rfl ?_
  refine pm_R_lo pm_M45 (pc' := 2) rfl rfl rfl ?_
  refine pm_R_alen pm_M45 (pc' := 3) (v := Int32.ofNat N) rfl ea h16 hlt (by decide) rfl rfl ?_
  refine pm_R_icmp pm_M45 (t := 14) (pc' := 6) rfl rfl rfl (fun c => ?_) (fun c => ?_)
  · have c' : ¬ Int32.ofNat n = Int32.ofNat N := c
    have hlN : n < N := by
      rcases Nat.lt_or_ge n N with z | z
      · exact z
      · exact absurd (by rw [show n = N by omega]) c'
    refine pm_R_lo pm_M45 (pc' := 15) rfl rfl rfl ?_
    refine pm_R_newa pm_M45 (pc' := 17) (N := n) rfl rfl (cl_nn (by omega)) (cl_tnN (by omega)) (by omega) rfl ?_
    obtain ⟨h1, e1⟩ : ∃ z, pm_push h (.inl (0, pm_newty 0 n)) n = z := ⟨_, rfl⟩
    have a1 : h1.1 = h.1 + 1 := by rw [← e1]; rfl
    have s1 : h1.2.1 = h.2.1 + n := by rw [← e1]; rfl
    have o1 : ∀ b, b < h.1 → h1.2.2 b = h.2.2 b := fun b hb => by rw [← e1]; exact cl_push_lt hb
    have n1 : h1.2.2 h.1 = .inl (0, n, .inl (fun _ => (0 : Int32))) := by rw [← e1]; exact cl_push_eq
    rw [e1]
    refine pm_R_lo pm_M45 (pc' := 18) (ls' := [.ref a, .int (Int32.ofNat n), .ref h.1]) (st' := []) rfl rfl rfl ?_
    refine pm_R_lo pm_M45 (pc' := 19) rfl rfl rfl ?_
    refine pm_R_op pm_M45 (pc' := 20) (st' := [.int 0, .ref a]) rfl rfl rfl ?_
    refine pm_R_lo pm_M45 (pc' := 21) rfl rfl rfl ?_
    refine pm_R_op pm_M45 (pc' := 22) (st' := [.int 0, .ref h.1, .int 0, .ref a]) rfl rfl rfl ?_
    refine pm_R_lo pm_M45 (pc' := 23) rfl rfl rfl ?_
    refine pm_R_alen pm_M45 (pc' := 24) (v := Int32.ofNat N) rfl ((o1 a hlt).trans ea) h16 (by omega) (by decide) rfl rfl ?_
    refine pm_R_lo pm_M45 (pc' := 25) rfl rfl rfl ?_
    refine cl_R_minE pm_M45 (pc' := 28) rfl rfl rfl (Nat.le_of_ble_eq_true rfl) rfl ?_
    have lt : Int32.ofNat n < Int32.ofNat N := Int32.lt_iff_toInt_lt.mpr (by rw [sf_ofT (by omega), sf_ofT (by omega)]; omega)
    rw [if_pos lt]
    refine pm_R_acp pm_M45 (pc' := 31) rfl rfl rfl ((o1 a hlt).trans ea) n1 h16 (by omega) (by omega) (by omega) (S := 0) (D := 0) rfl rfl (cl_tnN (by omega)) (by decide) (by decide) (cl_nn (by omega)) (by omega) (by omega) (Nat.le_of_ble_eq_true rfl) rfl ?_
    refine pm_R_lo pm_M45 (pc' := 32) rfl rfl rfl ?_
    refine pm_R_ret pm_M45 (r := some (.ref h.1)) rfl rfl (K _ _ a1 s1 cl_set_eq (fun j hj => cl_cpI (by omega) hj) (fun _ j hj => cl_cpO (by omega)) (fun b hb => ?_))
    rw [cl_set_ne (by omega)]; exact o1 b hb
  · have c' : Int32.ofNat n = Int32.ofNat N := Classical.not_not.mp c
    have : n = N := by
      have := congrArg Int32.toInt c'
      rw [sf_ofT (by omega), sf_ofT (by omega)] at this
      omega
    subst this
    refine pm_R_lo pm_M45 (pc' := 7) rfl rfl rfl ?_
    refine pm_R_cln pm_M45 (pc' := 10) rfl rfl rfl ea h16 hlt (Nat.le_of_ble_eq_true rfl) rfl ?_
    refine cl_R_cast pm_M45 (pc' := 13) rfl rfl cl_push_eq (by omega) (Nat.lt_succ_self _) rfl ?_
    exact pm_R_ret pm_M45 (r := some (.ref h.1)) rfl rfl (K _ f rfl rfl cl_push_eq (fun _ _ => rfl) (fun z => absurd z (Nat.lt_irrefl _)) (fun b hb => cl_push_lt hb))
/-- a ROW is made -/
theorem cl_c47 {t n : Nat} {f : Nat → Int32} {m : Nat → Int32} (e25 : h.2.2 25 = .inr (6, cl_f25 m)) (e26 : h.2.2 26 = .inl (0, 200, .inl f)) (n5 : m 5 = Int32.ofNat n) (n1 : 1 ≤ n) (n12 : n ≤ 12) (hb : ∀ k, k < n → sf_B 0 9 (f k)) (et : h.2.2 t = .inr (5, [.int 0, .null])) (h72 : 72 ≤ t) (ht : h.1 = t + 1) (K : ∀ h' : pm_H, h'.1 = t + 2 → h'.2.1 = h.2.1 + n → (∀ b, b < t → h'.2.2 b = h.2.2 b) → cl_R h'.2.2 t → Q none h') : pm_R (d + 1) 47 0 [.ref t, .ref 25] [] h Q := by
  refine pm_R_lo pm_M47 (pc' := 1) rfl rfl rfl ?_
  refine pm_R_obj pm_M47 (pc' := 4) rfl rfl rfl (Nat.le_of_ble_eq_true rfl) rfl ?_
  refine pm_R_lo pm_M47 (pc' := 5) rfl rfl rfl ?_
  refine pm_R_lo pm_M47 (pc' := 6) rfl rfl rfl ?_
  refine pm_R_get pm_M47 (pc' := 9) (v := .int (Int32.ofNat n)) rfl rfl e25 (by decide) (by omega) (congrArg (fun z => some (Value.int z)) n5) rfl ?_
  refine pm_R_put pm_M47 (pc' := 12) (fs' := [.int (Int32.ofNat n), .null]) rfl rfl rfl et (by omega) (by omega) (Nat.le_of_ble_eq_true rfl) rfl (Or.inr ⟨pm_N47_ini, rfl, rfl⟩) rfl rfl ?_
  obtain ⟨h1, e1⟩ : ∃ z, pm_set h t (.inr (5, [.int (Int32.ofNat n), .null])) = z := ⟨_, rfl⟩
  have a1 : h1.1 = t + 1 := by rw [← e1]; exact ht
  have s1 : h1.2.1 = h.2.1 := by rw [← e1]; rfl
  have t1 : h1.2.2 t = .inr (5, [.int (Int32.ofNat n), .null]) := by rw [← e1]; exact cl_set_eq
  have o1 : ∀ b, b ≠ t → h1.2.2 b = h.2.2 b := fun b hb => by rw [← e1]; exact cl_set_ne hb
  rw [e1]
  refine pm_R_lo pm_M47 (pc' := 13) rfl rfl rfl ?_
  refine pm_R_lo pm_M47 (pc' := 14) rfl rfl rfl ?_
  refine pm_R_get pm_M47 (pc' := 17) (v := .ref 26) rfl rfl ((o1 25 (by omega)).trans e25) (by decide) (by omega) rfl rfl ?_
  refine pm_R_lo pm_M47 (pc' := 18) rfl rfl rfl ?_
  refine pm_R_get pm_M47 (pc' := 21) (v := .int (Int32.ofNat n)) rfl rfl t1 (by omega) (by omega) rfl rfl ?_
  refine pm_R_cs pm_M47 (pc' := 24) (ra := [.int (Int32.ofNat n), .ref 26]) (rest := [.ref t]) (ls' := [.ref 26, .int (Int32.ofNat n), pm_no]) rfl rfl (Or.inl rfl) pm_M45 rfl rfl (Nat.le_of_ble_eq_true rfl) rfl rfl ?_
  refine cl_c45 (d := d) ((o1 26 (by omega)).trans e26) (by decide) (by omega) (by decide) (by omega) rfl (fun h2 g a2 s2 c2 g1 g2 o2 => ?_)
  show pm_R _ 47 24 [.ref t, .ref 25] [.ref h1.1, .ref t] _ _
  refine pm_R_put pm_M47 (pc' := 27) (fs' := [.int (Int32.ofNat n), .ref h1.1]) rfl rfl rfl ((o2 t (by omega)).trans t1) (by omega) (by omega) (Nat.le_of_ble_eq_true rfl) rfl (Or.inr ⟨pm_N47_ini, rfl, rfl⟩) rfl rfl ?_
  refine pm_R_ret pm_M47 (r := none) rfl rfl (K _ (by show h2.1 = _; omega) (by show h2.2.1 = _; omega) (fun b hb => ?_) ⟨n, g, n1, n12, ?_, ?_, fun j => ?_⟩)
  · rw [cl_set_ne (by omega), o2 b (by omega), o1 b (by omega)]
  · rw [cl_set_eq, a1]
  · rw [cl_set_ne (by omega), ← a1]; exact c2
  · rcases Nat.lt_or_ge j n with z | z
    · rw [g1 j z]; exact hb j z
    · rw [g2 (by omega) j z]; exact ⟨by decide, by decide⟩
/-- a HOUSE is made -/
theorem cl_c54 {t n : Nat} {f : Nat → Int32} {m : Nat → Int32} (e25 : h.2.2 25 = .inr (6, cl_f25 m)) (e26 : h.2.2 26 = .inl (0, 200, .inl f)) (n5 : m 5 = Int32.ofNat n) (n8 : n ≤ 8) (hb : ∀ k, k < n → sf_B 0 5 (f (4 * k)) ∧ sf_B 0 9 (f (4 * k + 1)) ∧ sf_B (-1) 9 (f (4 * k + 2))) (et : h.2.2 t = .inr (0, [.int 0, .null])) (h72 : 72 ≤ t) (ht : h.1 = t + 1) (K : ∀ h' : pm_H, h'.1 = t + 2 → h'.2.1 = h.2.1 + 4 * n → (∀ b, b < t → h'.2.2 b = h.2.2 b) → cl_H h'.2.2 t → Q none h') : pm_R (d + 1) 54 0 [.ref t, .ref 25] [] h Q := by
  have i4 : Int32.ofNat n * 4 = Int32.ofNat (4 * n) := by rw [Nat.mul_comm, Int32.ofNat_mul]; rfl
  refine pm_R_lo pm_M54 (pc' := 1) rfl rfl rfl ?_
  refine pm_R_obj pm_M54 (pc' := 4) rfl rfl rfl (Nat.le_of_ble_eq_true rfl) rfl ?_
  refine pm_R_lo pm_M54 (pc' := 5) rfl rfl rfl ?_
  refine pm_R_lo pm_M54 (pc' := 6) rfl rfl rfl ?_
  refine pm_R_get pm_M54 (pc' := 9) (v := .int (Int32.ofNat n)) rfl rfl e25 (by decide) (by omega) (congrArg (fun z => some (Value.int z)) n5) rfl ?_
  refine pm_R_put pm_M54 (pc' := 12) (fs' := [.int (Int32.ofNat n), .null]) rfl rfl rfl et (by omega) (by omega) (Nat.le_of_ble_eq_true rfl) rfl (Or.inr ⟨pm_N54_ini, rfl, rfl⟩) rfl rfl ?_
  obtain ⟨h1, e1⟩ : ∃ z, pm_set h t (.inr (0, [.int (Int32.ofNat n), .null])) = z := ⟨_, rfl⟩
  have a1 : h1.1 = t + 1 := by rw [← e1]; exact ht
  have s1 : h1.2.1 = h.2.1 := by rw [← e1]; rfl
  have t1 : h1.2.2 t = .inr (0, [.int (Int32.ofNat n), .null]) := by rw [← e1]; exact cl_set_eq
  have o1 : ∀ b, b ≠ t → h1.2.2 b = h.2.2 b := fun b hb => by rw [← e1]; exact cl_set_ne hb
  rw [e1]
  refine pm_R_lo pm_M54 (pc' := 13) rfl rfl rfl ?_
  refine pm_R_lo pm_M54 (pc' := 14) rfl rfl rfl ?_
  refine pm_R_get pm_M54 (pc' := 17) (v := .ref 26) rfl rfl ((o1 25 (by omega)).trans e25) (by decide) (by omega) rfl rfl ?_
  refine pm_R_lo pm_M54 (pc' := 18) rfl rfl rfl ?_
  refine pm_R_get pm_M54 (pc' := 21) (v := .int (Int32.ofNat n)) rfl rfl t1 (by omega) (by omega) rfl rfl ?_
  refine pm_R_op pm_M54 (pc' := 22) (st' := [.int 4, .int (Int32.ofNat n), .ref 26, .ref t]) rfl rfl rfl ?_
  refine pm_R_op pm_M54 (pc' := 23) (st' := [.int (Int32.ofNat (4 * n)), .ref 26, .ref t]) rfl (congrArg (fun z => some [Value.int z, .ref 26, .ref t]) i4) rfl ?_
  refine pm_R_cs pm_M54 (pc' := 26) (ra := [.int (Int32.ofNat (4 * n)), .ref 26]) (rest := [.ref t]) (ls' := [.ref 26, .int (Int32.ofNat (4 * n)), pm_no]) rfl rfl (Or.inl rfl) pm_M45 rfl rfl (Nat.le_of_ble_eq_true rfl) rfl rfl ?_
  refine cl_c45 (d := d) ((o1 26 (by omega)).trans e26) (by decide) (by omega) (by decide) (by omega) rfl (fun h2 g a2 s2 c2 g1 g2 o2 => ?_)
  show pm_R _ 54 26 [.ref t, .ref 25] [.ref h1.1, .ref t] _ _
  refine pm_R_put pm_M54 (pc' := 29) (fs' := [.int (Int32.ofNat n), .ref h1.1]) rfl rfl rfl ((o2 t (by omega)).trans t1) (by omega) (by omega) (Nat.le_of_ble_eq_true rfl) rfl (Or.inr ⟨pm_N54_ini, rfl, rfl⟩) rfl rfl ?_
  refine pm_R_ret pm_M54 (r := none) rfl rfl (K _ (by show h2.1 = _; omega) (by show h2.2.1 = _; omega) (fun b hb => ?_) ⟨n, g, n8, ?_, ?_, fun k hk => ?_⟩)
  · rw [cl_set_ne (by omega), o2 b (by omega), o1 b (by omega)]
  · rw [cl_set_eq, a1]
  · rw [cl_set_ne (by omega), ← a1]; exact c2
  · rw [g1 _ (by omega), g1 _ (by omega), g1 _ (by omega)]; exact hb k hk
end
