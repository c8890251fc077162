section
/-! the charts of short ROWS are made, and found -/
theorem cl_x123 {d : Nat} {h : pm_H} {Q : Option Value → pm_H → Prop} {t : Nat} (ht : h.2.2 t = .inr (3, [.null, .null, .null, .null, .null, .int 0, .int 0, .int 0, .int 0])) (h16 : 16 ≤ t) (hlt : t < h.1) (K : ∀ h', h'.1 = h.1 + 4 → h'.2.1 = h.2.1 + 24457 → h'.2.2 t = .inr (3, [.ref h.1, .ref (h.1 + 1), .ref (h.1 + 2), .ref (h.1 + 3), .null, .int 0, .int (-1), .int (-1), .int (-1)]) → h'.2.2 h.1 = .inl (0, 15, .inl (fun _ => (0 : Int32))) → h'.2.2 (h.1 + 1) = .inl (1, 6666, .inr (.inl (fun _ => (0 : Int64)))) → h'.2.2 (h.1 + 2) = .inl (0, 6666, .inl (fun _ => (0 : Int32))) → h'.2.2 (h.1 + 3) = .inl (2, 11110, .inl (fun _ => (0 : Int32))) → (∀ b, b ≠ t → b < h.1 → h'.2.2 b = h.2.2 b) → Q none h') : pm_R (d + 0) 123 0 [.ref t] [] h Q := by
  have new : ∀ (g : pm_H) (x : pm_E) (n a : Nat), a < g.1 → (pm_push g x n).2.2 a = g.2.2 a := fun g x n a ha => by
    have : a ≠ g.1 := by omega
    simp [pm_push, va_up, this]
  have nee : ∀ (g : pm_H) (x : pm_E) (n : Nat), (pm_push g x n).2.2 g.1 = x := fun g x n => by simp [pm_push, va_up]
  refine pm_R_lo pm_M123 (pc' := 1) rfl rfl rfl ?_
  refine pm_R_obj pm_M123 (pc' := 4) rfl rfl rfl (Nat.le_of_ble_eq_true rfl) rfl ?_
  refine pm_R_lo pm_M123 (pc' := 5) rfl rfl rfl ?_
  refine pm_R_op pm_M123 (pc' := 7) (st' := [.int 15, .ref t]) rfl rfl rfl ?_
  refine pm_R_newa pm_M123 (pc' := 9) (N := 15) rfl rfl (by decide) rfl (Nat.le_of_ble_eq_true rfl) rfl ?_
  obtain ⟨h1, e1⟩ : ∃ z, pm_push h (.inl (0, pm_newty 0 15)) 15 = z := ⟨_, rfl⟩
  have a1 : h1.1 = h.1 + 1 := by rw [← e1]; rfl
  have s1 : h1.2.1 = h.2.1 + 15 := by rw [← e1]; rfl
  have o1 : ∀ a, a < h.1 → h1.2.2 a = h.2.2 a := fun a ha => by rw [← e1]; exact new _ _ _ _ ha
  have n1 : h1.2.2 h.1 = .inl (0, 15, .inl (fun _ => (0 : Int32))) := by rw [← e1]; exact nee _ _ _
  rw [e1]
  refine pm_R_put pm_M123 (pc' := 12) (fs' := [.ref h.1, .null, .null, .null, .null, .int 0, .int 0, .int 0, .int 0]) rfl rfl rfl ((o1 t hlt).trans ht) h16 (by omega) (Nat.le_of_ble_eq_true rfl) rfl (Or.inr ⟨pm_N123_ini, rfl, rfl⟩) rfl rfl ?_
  obtain ⟨h2, e2⟩ : ∃ z, pm_set h1 t (.inr (3, [.ref h.1, .null, .null, .null, .null, .int 0, .int 0, .int 0, .int 0])) = z := ⟨_, rfl⟩
  have a2 : h2.1 = h.1 + 1 := by rw [← e2]; exact a1
  have s2 : h2.2.1 = h.2.1 + 15 := by rw [← e2]; exact s1
  have t2 : h2.2.2 t = .inr (3, [.ref h.1, .null, .null, .null, .null, .int 0, .int 0, .int 0, .int 0]) := by rw [← e2]; exact cl_set_eq
  have o2 : ∀ a, a ≠ t → h2.2.2 a = h1.2.2 a := fun a ha => by rw [← e2]; exact cl_set_ne ha
  rw [e2]
  refine pm_R_lo pm_M123 (pc' := 13) rfl rfl rfl ?_
  refine pm_R_op pm_M123 (pc' := 16) (st' := [.int 6666, .ref t]) rfl rfl rfl ?_
  refine pm_R_newa pm_M123 (pc' := 18) (N := 6666) rfl rfl (by decide) rfl (Nat.le_of_ble_eq_true rfl) rfl ?_
  obtain ⟨h3, e3⟩ : ∃ z, pm_push h2 (.inl (1, pm_newty 1 6666)) 6666 = z := ⟨_, rfl⟩
  have a3 : h3.1 = h.1 + 2 := by rw [← e3]; show h2.1 + 1 = _; omega
  have s3 : h3.2.1 = h.2.1 + 6681 := by rw [← e3]; show h2.2.1 + 6666 = _; omega
  have o3 : ∀ a, a < h2.1 → h3.2.2 a = h2.2.2 a := fun a ha => by rw [← e3]; exact new _ _ _ _ ha
  have n3 : h3.2.2 h2.1 = .inl (1, 6666, .inr (.inl (fun _ => (0 : Int64)))) := by rw [← e3]; exact nee _ _ _
  rw [e3]
  refine pm_R_put pm_M123 (pc' := 21) (fs' := [.ref h.1, .ref h2.1, .null, .null, .null, .int 0, .int 0, .int 0, .int 0]) rfl rfl rfl ((o3 t (by omega)).trans t2) h16 (by omega) (Nat.le_of_ble_eq_true rfl) rfl (Or.inr ⟨pm_N123_ini, rfl, rfl⟩) rfl rfl ?_
  obtain ⟨h4, e4⟩ : ∃ z, pm_set h3 t (.inr (3, [.ref h.1, .ref h2.1, .null, .null, .null, .int 0, .int 0, .int 0, .int 0])) = z := ⟨_, rfl⟩
  have a4 : h4.1 = h.1 + 2 := by rw [← e4]; exact a3
  have s4 : h4.2.1 = h.2.1 + 6681 := by rw [← e4]; exact s3
  have t4 : h4.2.2 t = .inr (3, [.ref h.1, .ref h2.1, .null, .null, .null, .int 0, .int 0, .int 0, .int 0]) := by rw [← e4]; exact cl_set_eq
  have o4 : ∀ a, a ≠ t → h4.2.2 a = h3.2.2 a := fun a ha => by rw [← e4]; exact cl_set_ne ha
  rw [e4]
  refine pm_R_lo pm_M123 (pc' := 22) rfl rfl rfl ?_
  refine pm_R_op pm_M123 (pc' := 25) (st' := [.int 6666, .ref t]) rfl rfl rfl ?_
  refine pm_R_newa pm_M123 (pc' := 27) (N := 6666) rfl rfl (by decide) rfl (Nat.le_of_ble_eq_true rfl) rfl ?_
  obtain ⟨h5, e5⟩ : ∃ z, pm_push h4 (.inl (0, pm_newty 0 6666)) 6666 = z := ⟨_, rfl⟩
  have a5 : h5.1 = h.1 + 3 := by rw [← e5]; show h4.1 + 1 = _; omega
  have s5 : h5.2.1 = h.2.1 + 13347 := by rw [← e5]; show h4.2.1 + 6666 = _; omega
  have o5 : ∀ a, a < h4.1 → h5.2.2 a = h4.2.2 a := fun a ha => by rw [← e5]; exact new _ _ _ _ ha
  have n5 : h5.2.2 h4.1 = .inl (0, 6666, .inl (fun _ => (0 : Int32))) := by rw [← e5]; exact nee _ _ _
  rw [e5]
  refine pm_R_put pm_M123 (pc' := 30) (fs' := [.ref h.1, .ref h2.1, .ref h4.1, .null, .null, .int 0, .int 0, .int 0, .int 0]) rfl rfl rfl ((o5 t (by omega)).trans t4) h16 (by omega) (Nat.le_of_ble_eq_true rfl) rfl (Or.inr ⟨pm_N123_ini, rfl, rfl⟩) rfl rfl ?_
  obtain ⟨h6, e6⟩ : ∃ z, pm_set h5 t (.inr (3, [.ref h.1, .ref h2.1, .ref h4.1, .null, .null, .int 0, .int 0, .int 0, .int 0])) = z := ⟨_, rfl⟩
  have a6 : h6.1 = h.1 + 3 := by rw [← e6]; exact a5
  have s6 : h6.2.1 = h.2.1 + 13347 := by rw [← e6]; exact s5
  have t6 : h6.2.2 t = .inr (3, [.ref h.1, .ref h2.1, .ref h4.1, .null, .null, .int 0, .int 0, .int 0, .int 0]) := by rw [← e6]; exact cl_set_eq
  have o6 : ∀ a, a ≠ t → h6.2.2 a = h5.2.2 a := fun a ha => by rw [← e6]; exact cl_set_ne ha
  rw [e6]
  refine pm_R_lo pm_M123 (pc' := 31) rfl rfl rfl ?_
  refine pm_R_op pm_M123 (pc' := 34) (st' := [.int 11110, .ref t]) rfl rfl rfl ?_
  refine pm_R_newa pm_M123 (pc' := 36) (N := 11110) rfl rfl (by decide) rfl (Nat.le_of_ble_eq_true rfl) rfl ?_
  obtain ⟨h7, e7⟩ : ∃ z, pm_push h6 (.inl (2, pm_newty 2 11110)) 11110 = z := ⟨_, rfl⟩
  have a7 : h7.1 = h.1 + 4 := by rw [← e7]; show h6.1 + 1 = _; omega
  have s7 : h7.2.1 = h.2.1 + 24457 := by rw [← e7]; show h6.2.1 + 11110 = _; omega
  have o7 : ∀ a, a < h6.1 → h7.2.2 a = h6.2.2 a := fun a ha => by rw [← e7]; exact new _ _ _ _ ha
  have n7 : h7.2.2 h6.1 = .inl (2, 11110, .inl (fun _ => (0 : Int32))) := by rw [← e7]; exact nee _ _ _
  rw [e7]
  refine pm_R_put pm_M123 (pc' := 39) (fs' := [.ref h.1, .ref h2.1, .ref h4.1, .ref h6.1, .null, .int 0, .int 0, .int 0, .int 0]) rfl rfl rfl ((o7 t (by omega)).trans t6) h16 (by omega) (Nat.le_of_ble_eq_true rfl) rfl (Or.inr ⟨pm_N123_ini, rfl, rfl⟩) rfl rfl ?_
  obtain ⟨h8, e8⟩ : ∃ z, pm_set h7 t (.inr (3, [.ref h.1, .ref h2.1, .ref h4.1, .ref h6.1, .null, .int 0, .int 0, .int 0, .int 0])) = z := ⟨_, rfl⟩
  have a8 : h8.1 = h.1 + 4 := by rw [← e8]; exact a7
  have s8 : h8.2.1 = h.2.1 + 24457 := by rw [← e8]; exact s7
  have t8 : h8.2.2 t = .inr (3, [.ref h.1, .ref (h.1 + 1), .ref (h.1 + 2), .ref (h.1 + 3), .null, .int 0, .int 0, .int 0, .int 0]) := by rw [← e8, cl_set_eq, a2, a4, a6]
  have o8 : ∀ a, a ≠ t → h8.2.2 a = h7.2.2 a := fun a ha => by rw [← e8]; exact cl_set_ne ha
  rw [e8]
  refine pm_R_lo pm_M123 (pc' := 40) rfl rfl rfl ?_
  refine pm_R_op pm_M123 (pc' := 41) (st' := [.null, .ref t]) rfl rfl rfl ?_
  refine pm_R_put pm_M123 (pc' := 44) (fs' := [.ref h.1, .ref (h.1 + 1), .ref (h.1 + 2), .ref (h.1 + 3), .null, .int 0, .int 0, .int 0, .int 0]) rfl rfl rfl t8 h16 (by omega) (Nat.le_of_ble_eq_true rfl) rfl (Or.inl rfl) rfl rfl ?_
  refine pm_R_lo pm_M123 (pc' := 45) rfl rfl rfl ?_
  refine pm_R_op pm_M123 (pc' := 46) (st' := [.int 0, .ref t]) rfl rfl rfl ?_
  refine pm_R_put pm_M123 (pc' := 49) (fs' := [.ref h.1, .ref (h.1 + 1), .ref (h.1 + 2), .ref (h.1 + 3), .null, .int 0, .int 0, .int 0, .int 0]) rfl rfl rfl cl_set_eq h16 (by show t < h8.1; omega) (Nat.le_of_ble_eq_true rfl) rfl (Or.inl rfl) rfl rfl ?_
  refine pm_R_lo pm_M123 (pc' := 50) rfl rfl rfl ?_
  refine pm_R_op pm_M123 (pc' := 51) (st' := [.int (-1), .ref t]) rfl rfl rfl ?_
  refine pm_R_put pm_M123 (pc' := 54) (fs' := [.ref h.1, .ref (h.1 + 1), .ref (h.1 + 2), .ref (h.1 + 3), .null, .int 0, .int (-1), .int 0, .int 0]) rfl rfl rfl cl_set_eq h16 (by show t < h8.1; omega) (Nat.le_of_ble_eq_true rfl) rfl (Or.inl rfl) rfl rfl ?_
  refine pm_R_lo pm_M123 (pc' := 55) rfl rfl rfl ?_
  refine pm_R_op pm_M123 (pc' := 56) (st' := [.int (-1), .ref t]) rfl rfl rfl ?_
  refine pm_R_put pm_M123 (pc' := 59) (fs' := [.ref h.1, .ref (h.1 + 1), .ref (h.1 + 2), .ref (h.1 + 3), .null, .int 0, .int (-1), .int (-1), .int 0]) rfl rfl rfl cl_set_eq h16 (by show t < h8.1; omega) (Nat.le_of_ble_eq_true rfl) rfl (Or.inl rfl) rfl rfl ?_
  refine pm_R_lo pm_M123 (pc' := 60) rfl rfl rfl ?_
  refine pm_R_op pm_M123 (pc' := 61) (st' := [.int (-1), .ref t]) rfl rfl rfl ?_
  refine pm_R_put pm_M123 (pc' := 64) (fs' := [.ref h.1, .ref (h.1 + 1), .ref (h.1 + 2), .ref (h.1 + 3), .null, .int 0, .int (-1), .int (-1), .int (-1)]) rfl rfl rfl cl_set_eq h16 (by show t < h8.1; omega) (Nat.le_of_ble_eq_true rfl) rfl (Or.inl rfl) rfl rfl ?_
  refine pm_R_ret pm_M123 (r := none) rfl rfl (K _ a8 s8 cl_set_eq ?_ ?_ ?_ ?_ (fun b b1 b2 => ?_))
  · rw [cl_set_ne (by omega), cl_set_ne (by omega), cl_set_ne (by omega), cl_set_ne (by omega), cl_set_ne (by omega), o8 _ (by omega), o7 _ (by omega), o6 _ (by omega), o5 _ (by omega), o4 _ (by omega), o3 _ (by omega), o2 _ (by omega), n1]
  · rw [cl_set_ne (by omega), cl_set_ne (by omega), cl_set_ne (by omega), cl_set_ne (by omega), cl_set_ne (by omega), o8 _ (by omega), o7 _ (by omega), o6 _ (by omega), o5 _ (by omega), o4 _ (by omega), ← a2, n3]
  · rw [cl_set_ne (by omega), cl_set_ne (by omega), cl_set_ne (by omega), cl_set_ne (by omega), cl_set_ne (by omega), o8 _ (by omega), o7 _ (by omega), o6 _ (by omega), ← a4, n5]
  · rw [cl_set_ne (by omega), cl_set_ne (by omega), cl_set_ne (by omega), cl_set_ne (by omega), cl_set_ne (by omega), o8 _ (by omega), ← a6, n7]
  · rw [cl_set_ne b1, cl_set_ne b1, cl_set_ne b1, cl_set_ne b1, cl_set_ne b1, o8 _ b1, o7 _ (by omega), o6 _ b1, o5 _ (by omega), o4 _ b1, o3 _ (by omega), o2 _ b1, o1 _ b2]
/-- shortRows from the chart on -/
theorem cl_c122_t {d : Nat} {ck : cl_K} {E : Nat → pm_E} {m : Nat → Int32} {o : Nat → Option Nat} {h : pm_H} {Q : Option Value → pm_H → Prop} {a0 : Int32} {lo c : Nat} {fl fs : Nat → Option Nat} (G : cl_G ck E) (T : cl_T ck E m o h) (hj : pm_in a0 2 = true) (el : h.2.2 19 = .inl (4, 2, .inr (.inr (.inr (.inr fl))))) (hl : fl a0.toNatClampNeg = some lo) (es : h.2.2 37 = .inl (9, 2, .inr (.inr (.inr (.inr fs))))) (hs : fs a0.toNatClampNeg = some c) (hkl : ck lo = 1) (hk : ck c = 24) (K : ∀ h', cl_T ck E m o h' → cl_F ck [] 0 0 h h' → cl_NN ck h' c → cl_NT ck h h' → Q (some (.ref c)) h') : pm_R (d + 1) 122 22 [.ref 16, .int a0] [] h Q := by
  refine pm_R_lo pm_M122 (pc' := 23) rfl rfl rfl ?_
  refine pm_R_get pm_M122 (pc' := 26) (v := .ref 37) rfl rfl T.e16 (by decide) (T.lt (by decide)) rfl rfl ?_
  refine pm_R_lo pm_M122 (pc' := 27) rfl rfl rfl ?_
  refine pm_R_aald pm_M122 (pc' := 28) (v := .ref c) rfl es (by decide) (by decide) (by decide) (T.lt (by decide)) hj (by rw [hs]; rfl) rfl ?_
  refine pm_R_lo pm_M122 (pc' := 29) rfl rfl rfl ?_
  refine pm_R_get pm_M122 (pc' := 32) (v := .ref 17) rfl rfl T.e16 (by decide) (T.lt (by decide)) rfl rfl ?_
  refine pm_R_get pm_M122 (pc' := 35) (v := .ref 19) rfl rfl T.e17 (by decide) (T.lt (by decide)) rfl rfl ?_
  refine pm_R_lo pm_M122 (pc' := 36) rfl rfl rfl ?_
  refine pm_R_aald pm_M122 (pc' := 37) (v := .ref lo) rfl el (by decide) (by decide) (by decide) (T.lt (by decide)) hj (by rw [hl]; rfl) rfl ?_
  obtain ⟨l0, fi, av, ah, an, B1, B2, e, kl⟩ := T.D.2.2.2.1 c hk
  refine pm_R_cv pm_M122 (pc' := 40) (a := c) (ra := [.ref lo]) (rest := []) (ls' := [.ref c, .ref lo]) rfl rfl (Or.inl rfl) pm_M124 e rfl (G.ge hk (by decide)) (T.al hk (by decide)) rfl rfl (Nat.le_of_ble_eq_true rfl) rfl rfl ?_
  refine cl_c124 (d := d) G T hk hkl (fun h' T' F' N' NT' => ?_)
  show pm_R _ 122 40 [.ref 16, .int a0] [] _ _
  refine pm_R_lo pm_M122 (pc' := 41) rfl rfl rfl ?_
  refine pm_R_get pm_M122 (pc' := 44) (v := .ref 37) rfl rfl T'.e16 (by decide) (T'.lt (by decide)) rfl rfl ?_
  refine pm_R_lo pm_M122 (pc' := 45) rfl rfl rfl ?_
  refine pm_R_aald pm_M122 (pc' := 46) (v := .ref c) rfl (F'.cell G List.not_mem_nil (by decide) es) (by decide) (by decide) (by decide) (T'.lt (by decide)) hj (by rw [hs]; rfl) rfl ?_
  exact pm_R_ret pm_M122 (r := some (.ref c)) rfl rfl (K h' T' F' N' NT')
/-- shortRows: the chart is there, or made -/
theorem cl_c122 {d : Nat} {ck : cl_K} {E : Nat → pm_E} {m : Nat → Int32} {o : Nat → Option Nat} {h : pm_H} {Q : Option Value → pm_H → Prop} {a0 : Int32} {lo : Nat} {fl : Nat → Option Nat} (G : cl_G ck E) (T : cl_T ck E m o h) (hj : pm_in a0 2 = true) (el : h.2.2 19 = .inl (4, 2, .inr (.inr (.inr (.inr fl))))) (hl : fl a0.toNatClampNeg = some lo) (hkl : ck lo = 1) (K : ∀ (c : Nat) (ck' : cl_K) (h' : pm_H), (∀ b, b < h.1 → ck' b = ck b) → cl_G ck' E → cl_T ck' E m o h' → cl_F ck [37] 5 24466 h h' → ck' c = 24 → cl_NN ck' h' c → (∀ c, ck c = 24 → cl_NN ck h c → cl_NN ck' h' c) → (∀ a, a < 72 → a ≠ 37 → h'.2.2 a = h.2.2 a) → Q (some (.ref c)) h') : pm_R (d + 1) 122 0 [.ref 16, .int a0] [] h Q := by
  obtain ⟨fs, es, hO⟩ := T.C 37 (by decide) (by decide)
  refine pm_R_lo pm_M122 (pc' := 1) rfl rfl rfl ?_
  refine pm_R_get pm_M122 (pc' := 4) (v := .ref 37) rfl rfl T.e16 (by decide) (T.lt (by decide)) rfl rfl ?_
  refine pm_R_lo pm_M122 (pc' := 5) rfl rfl rfl ?_
  rcases hs : fs a0.toNatClampNeg with _ | c
  · refine pm_R_aald pm_M122 (pc' := 6) (v := .null) rfl es (by decide) (by decide) (by decide) (T.lt (by decide)) hj (by rw [hs]; rfl) rfl ?_
    refine pm_R_br pm_M122 (pc' := 9) rfl rfl ?_
    refine pm_R_lo pm_M122 (pc' := 10) rfl rfl rfl ?_
    refine pm_R_get pm_M122 (pc' := 13) (v := .ref 37) rfl rfl T.e16 (by decide) (T.lt (by decide)) rfl rfl ?_
    refine pm_R_lo pm_M122 (pc' := 14) rfl rfl rfl ?_
    refine pm_R_new pm_M122 (pc' := 17) (fs := [.null, .null, .null, .null, .null, .int 0, .int 0, .int 0, .int 0]) rfl rfl rfl rfl rfl ?_
    refine pm_R_op pm_M122 (pc' := 18) (st' := [.ref h.1, .ref h.1, .int a0, .ref 37]) rfl rfl rfl ?_
    refine pm_R_ci pm_M122 (pc' := 21) (a := h.1) (ra := []) (rest := [.ref h.1, .int a0, .ref 37]) (ls' := [.ref h.1]) rfl rfl (Or.inr rfl) pm_M123 rfl rfl (Nat.le_of_ble_eq_true rfl) rfl rfl ?_
    have h72 := T.1
    refine cl_x123 (d := d) (t := h.1) (by simp [pm_push, va_up]) (by omega) (Nat.lt_succ_self _) (fun h2 e1 e2 t2 c1 c2 c3 c4 oo => ?_)
    have e1' : h2.1 = h.1 + 5 := e1
    have e2' : h2.2.1 = h.2.1 + 24466 := e2.trans (by show h.2.1 + 9 + 24457 = _; omega)
    have hh : ∀ a, a < h.1 → h2.2.2 a = h.2.2 a := fun a ha => by
      rw [oo a (by omega) (by show a < h.1 + 1; omega)]
      have : a ≠ h.1 := by omega
      simp [pm_push, va_up, this]
    have G2 : cl_G (cl_gr ck h.1 5 24) E := cl_gr_G G T.2.2.2.2.2.2.2.2.2.2.1 h72 (by unfold cl_gp; omega) (fun _ _ => rfl) (fun z => absurd z (by decide)) (fun z => absurd z (by decide)) (fun z => absurd z (by decide)) (fun z => absurd z (by decide))
    have T2 : cl_T (cl_gr ck h.1 5 24) E m o h2 := T.grow G (by unfold cl_gp; omega) (fun _ _ => rfl) hh (by omega) (fun z => absurd z (by decide)) (fun z => absurd z (by decide)) (fun z => absurd z (by decide)) (fun _ => ⟨⟨0, -1, -1, -1, ⟨by decide, by decide⟩, ⟨by decide, by decide⟩, t2⟩, ⟨_, c1⟩, ⟨_, c2⟩, ⟨_, c3⟩, ⟨_, c4⟩⟩)
    have lt : ∀ b, b < h.1 → cl_gr ck h.1 5 24 b = ck b := fun b hb => cl_gr_lt hb
    have old := cl_gr_old (n := 5) (k0 := 24) T.2.2.2.2.2.2.2.2.2.2.1
    have kc : cl_gr ck h.1 5 24 h.1 = 24 := cl_gr_new0 (by decide)
    show pm_R _ 122 21 [.ref 16, .int a0] [.ref h.1, .int a0, .ref 37] _ _
    refine pm_R_aast pm_M122 (pc' := 22) rfl ((hh 37 (by omega)).trans es) t2 rfl (by decide) (T2.lt (by decide)) (by omega) (by omega) hj rfl ?_
    have T3 := T2.put37 G2 (f := va_up fs a0.toNatClampNeg (some h.1)) (fun i b hb => by
      by_cases e : i = a0.toNatClampNeg
      · rw [e] at hb; rw [show va_up fs a0.toNatClampNeg (some h.1) a0.toNatClampNeg = some h.1 by simp [va_up]] at hb; cases hb; exact kc
      · rw [show va_up fs a0.toNatClampNeg (some h.1) i = fs i by simp [va_up, e]] at hb
        have := hO i b hb
        rw [old b (by rw [this]; decide)]; exact this)
    have F3 : cl_F ck [37] 5 24466 h (pm_set h2 37 (.inl (9, 2, .inr (.inr (.inr (.inr (va_up fs a0.toNatClampNeg (some h.1)))))))) := by
      refine ⟨h72, by show h.1 ≤ h2.1; omega, by show h2.1 ≤ _; omega, by show h2.2.1 ≤ _; omega, fun a b1 b2 b3 => ?_⟩
      have : a ≠ 37 := fun e => b2 (by rw [e]; exact List.mem_singleton.mpr rfl)
      rw [cl_set_ne this]; exact hh a b1
    refine cl_c122_t (d := d) (lo := lo) (c := h.1) G2 T3 hj (by rw [cl_set_ne (by decide), hh 19 (by omega)]; exact el) hl cl_set_eq (by simp [va_up]) (by rw [old lo (by rw [hkl]; decide)]; exact hkl) kc (fun h' T' F' N' NT' => ?_)
    refine K h.1 _ h' lt G2 T' (F3.transG F' lt (by decide) (by decide) (by decide)) kc N' (fun c hc z => NT' c (by rw [old c (by rw [hc]; decide)]; exact hc) (z.lift old ?_)) (fun a ha hn => ?_)
    · have hc72 := G.1 c (by rw [hc]; decide)
      rw [cl_set_ne (by omega), hh c (T.al hc (by decide))]
    · rw [F'.cell G2 List.not_mem_nil ha rfl, cl_set_ne hn, hh a (by omega)]
  · refine pm_R_aald pm_M122 (pc' := 6) (v := .ref c) rfl es (by decide) (by decide) (by decide) (T.lt (by decide)) hj (by rw [hs]; rfl) rfl ?_
    refine pm_R_br pm_M122 (pc' := 22) rfl rfl ?_
    refine cl_c122_t (d := d) (lo := lo) (c := c) G T hj el hl es hs hkl (hO _ _ hs) (fun h' T' F' N' NT' => ?_)
    exact K c ck h' (fun _ _ => rfl) G T' ((cl_F.refl (ck := ck) (A := [37]) (n := 5) (s := 24466) T.1).trans F' (by decide) (by decide) (by decide)) (hO _ _ hs) N' NT' (fun a ha _ => F'.cell G List.not_mem_nil ha rfl)
end
