section
section
/-! what was told, and images of it: an object at a, its arrays at a + 1 .. a + 6; one is taken over into another -/
variable {d mid pc pc_q : Nat} {ls st : List Value} {h h0 : pm_H} {Q : Option Value → pm_H → Prop} {q : pm_M} {l : List (Nat × Instr × Nat)} {L a : Nat} {s f pl : Int32} {tp : Nat → Int32} {f1 f2 f3 f4 : Nat → Option Nat} {c : Nat → Int32}
def cl_TF (a : Nat) (h0 : pm_H) (s f pl : Int32) (tp : Nat → Int32) (f1 f2 f3 f4 : Nat → Option Nat) (c : Nat → Int32) (h : pm_H) : Prop := h.1 = h0.1 ∧ h.2.1 = h0.2.1 ∧ (∀ x, (x < a ∨ a + 6 < x) → h.2.2 x = h0.2.2 x) ∧ h.2.2 a = .inr (8, [.ref (a + 1), .int s, .int f, .int pl, .ref (a + 2), .ref (a + 3), .ref (a + 4), .ref (a + 5), .ref (a + 6)]) ∧ h.2.2 (a + 1) = .inl (2, 600, .inl tp) ∧ h.2.2 (a + 2) = .inl (4, 2, .inr (.inr (.inr (.inr f1)))) ∧ h.2.2 (a + 3) = .inl (5, 3, .inr (.inr (.inr (.inr f2)))) ∧ h.2.2 (a + 4) = .inl (6, 2, .inr (.inr (.inr (.inr f3)))) ∧ h.2.2 (a + 5) = .inl (7, 2, .inr (.inr (.inr (.inr f4)))) ∧ h.2.2 (a + 6) = .inl (0, 4, .inl c)
theorem cl_TF.s1 (P : cl_TF a h0 s f pl tp f1 f2 f3 f4 c h) (tp' : Nat → Int32) : cl_TF a h0 s f pl tp' f1 f2 f3 f4 c (pm_set h (a + 1) (.inl (2, 600, .inl tp'))) := by
  obtain ⟨p1, p2, p3, p4, c1, c2, c3, c4, c5, c6⟩ := P
  refine ⟨p1, p2, fun x hx => ?_, ?_, ?_, ?_, ?_, ?_, ?_, ?_⟩
  · rw [cl_set_ne (by omega)]; exact p3 x hx
  · rw [cl_set_ne (by omega)]; exact p4
  · exact cl_set_eq
  · rw [cl_set_ne (by omega)]; exact c2
  · rw [cl_set_ne (by omega)]; exact c3
  · rw [cl_set_ne (by omega)]; exact c4
  · rw [cl_set_ne (by omega)]; exact c5
  · rw [cl_set_ne (by omega)]; exact c6
theorem cl_TF.s2 (P : cl_TF a h0 s f pl tp f1 f2 f3 f4 c h) (g : Nat → Option Nat) : cl_TF a h0 s f pl tp g f2 f3 f4 c (pm_set h (a + 2) (.inl (4, 2, .inr (.inr (.inr (.inr g)))))) := by
  obtain ⟨p1, p2, p3, p4, c1, c2, c3, c4, c5, c6⟩ := P
  refine ⟨p1, p2, fun x hx => ?_, ?_, ?_, ?_, ?_, ?_, ?_, ?_⟩
  · rw [cl_set_ne (by omega)]; exact p3 x hx
  · rw [cl_set_ne (by omega)]; exact p4
  · rw [cl_set_ne (by omega)]; exact c1
  · exact cl_set_eq
  · rw [cl_set_ne (by omega)]; exact c3
  · rw [cl_set_ne (by omega)]; exact c4
  · rw [cl_set_ne (by omega)]; exact c5
  · rw [cl_set_ne (by omega)]; exact c6
theorem cl_TF.s3 (P : cl_TF a h0 s f pl tp f1 f2 f3 f4 c h) (g : Nat → Option Nat) : cl_TF a h0 s f pl tp f1 g f3 f4 c (pm_set h (a + 3) (.inl (5, 3, .inr (.inr (.inr (.inr g)))))) := by
  obtain ⟨p1, p2, p3, p4, c1, c2, c3, c4, c5, c6⟩ := P
  refine ⟨p1, p2, fun x hx => ?_, ?_, ?_, ?_, ?_, ?_, ?_, ?_⟩
  · rw [cl_set_ne (by omega)]; exact p3 x hx
  · rw [cl_set_ne (by omega)]; exact p4
  · rw [cl_set_ne (by omega)]; exact c1
  · rw [cl_set_ne (by omega)]; exact c2
  · exact cl_set_eq
  · rw [cl_set_ne (by omega)]; exact c4
  · rw [cl_set_ne (by omega)]; exact c5
  · rw [cl_set_ne (by omega)]; exact c6
theorem cl_TF.s4 (P : cl_TF a h0 s f pl tp f1 f2 f3 f4 c h) (g : Nat → Option Nat) : cl_TF a h0 s f pl tp f1 f2 g f4 c (pm_set h (a + 4) (.inl (6, 2, .inr (.inr (.inr (.inr g)))))) := by
  obtain ⟨p1, p2, p3, p4, c1, c2, c3, c4, c5, c6⟩ := P
  refine ⟨p1, p2, fun x hx => ?_, ?_, ?_, ?_, ?_, ?_, ?_, ?_⟩
  · rw [cl_set_ne (by omega)]; exact p3 x hx
  · rw [cl_set_ne (by omega)]; exact p4
  · rw [cl_set_ne (by omega)]; exact c1
  · rw [cl_set_ne (by omega)]; exact c2
  · rw [cl_set_ne (by omega)]; exact c3
  · exact cl_set_eq
  · rw [cl_set_ne (by omega)]; exact c5
  · rw [cl_set_ne (by omega)]; exact c6
theorem cl_TF.s5 (P : cl_TF a h0 s f pl tp f1 f2 f3 f4 c h) (g : Nat → Option Nat) : cl_TF a h0 s f pl tp f1 f2 f3 g c (pm_set h (a + 5) (.inl (7, 2, .inr (.inr (.inr (.inr g)))))) := by
  obtain ⟨p1, p2, p3, p4, c1, c2, c3, c4, c5, c6⟩ := P
  refine ⟨p1, p2, fun x hx => ?_, ?_, ?_, ?_, ?_, ?_, ?_, ?_⟩
  · rw [cl_set_ne (by omega)]; exact p3 x hx
  · rw [cl_set_ne (by omega)]; exact p4
  · rw [cl_set_ne (by omega)]; exact c1
  · rw [cl_set_ne (by omega)]; exact c2
  · rw [cl_set_ne (by omega)]; exact c3
  · rw [cl_set_ne (by omega)]; exact c4
  · exact cl_set_eq
  · rw [cl_set_ne (by omega)]; exact c6
theorem cl_TF.s6 (P : cl_TF a h0 s f pl tp f1 f2 f3 f4 c h) (c_q : Nat → Int32) : cl_TF a h0 s f pl tp f1 f2 f3 f4 c_q (pm_set h (a + 6) (.inl (0, 4, .inl c_q))) := by
  obtain ⟨p1, p2, p3, p4, c1, c2, c3, c4, c5, c6⟩ := P
  refine ⟨p1, p2, fun x hx => ?_, ?_, ?_, ?_, ?_, ?_, ?_, ?_⟩
  · rw [cl_set_ne (by omega)]; exact p3 x hx
  · rw [cl_set_ne (by omega)]; exact p4
  · rw [cl_set_ne (by omega)]; exact c1
  · rw [cl_set_ne (by omega)]; exact c2
  · rw [cl_set_ne (by omega)]; exact c3
  · rw [cl_set_ne (by omega)]; exact c4
  · rw [cl_set_ne (by omega)]; exact c5
  · exact cl_set_eq
theorem cl_TF.s0 (P : cl_TF a h0 s f pl tp f1 f2 f3 f4 c h) (s' f' pl' : Int32) : cl_TF a h0 s' f' pl' tp f1 f2 f3 f4 c (pm_set h a (.inr (8, [.ref (a + 1), .int s', .int f', .int pl', .ref (a + 2), .ref (a + 3), .ref (a + 4), .ref (a + 5), .ref (a + 6)]))) := by
  obtain ⟨p1, p2, p3, p4, c1, c2, c3, c4, c5, c6⟩ := P
  refine ⟨p1, p2, fun x hx => ?_, cl_set_eq, ?_, ?_, ?_, ?_, ?_, ?_⟩
  · rw [cl_set_ne (by omega)]; exact p3 x hx
  · rw [cl_set_ne (by omega)]; exact c1
  · rw [cl_set_ne (by omega)]; exact c2
  · rw [cl_set_ne (by omega)]; exact c3
  · rw [cl_set_ne (by omega)]; exact c4
  · rw [cl_set_ne (by omega)]; exact c5
  · rw [cl_set_ne (by omega)]; exact c6
theorem pm_R_acpB (hM : pm_Mt mid q l) {ix : Nat} (hf : pm_find l pc = some (.invokestatic ix, L)) (hn : pm_at pm_CL q.2.2.2.2 ix = none) (hx : pm_at pm_XL q.2.2.2.2 ix = some 1) {n dp sp : Int32} {a b n0 n1 N S D : Nat} {f g : Nat → Int32} (ha : h.2.2 a = .inl (2, n0, .inl f)) (hb : h.2.2 b = .inl (2, n1, .inl g)) (la : 16 ≤ a) (la' : a < h.1) (lb : 16 ≤ b) (lb' : b < h.1) (hs : sp.toNatClampNeg = S) (hd : dp.toNatClampNeg = D) (hN : n.toNatClampNeg = N) (ps : ¬ sp < 0) (pd : ¬ dp < 0) (pn : ¬ n < 0) (h0 : S + N ≤ n0) (h1 : D + N ≤ n1) (hc : (st.map fun v => v.category).sum ≤ 8) (hp : pc + 3 = pc_q) (kk : pm_R d mid pc_q ls st (pm_set h b (.inl (2, n1, .inl (va_cpy f g S D N)))) Q) : pm_R d mid pc ls (.int n :: .int dp :: .ref b :: .int sp :: .ref a :: st) h Q := by
  subst hs hd hN
  refine pm_R_nat hM hf rfl hn (st_q := st) (h_q := pm_set h b (.inl (2, n1, .inl (va_cpy f g sp.toNatClampNeg dp.toNatClampNeg n.toNatClampNeg)))) ?_ hp kk
  unfold pm_hb
  dsimp only
  rw [hx]
  simp only [Option.bind, ha, hb]
  exact if_pos ⟨la, la', lb, lb', ps, pd, pn, h0, h1, hc⟩
theorem cl_R_aastO (hM : pm_Mt mid q l) {a n t ci k : Nat} {g : Nat → Option Nat} {o : Option Nat} {j : Int32} (hf : pm_find l pc = some (.aastore, L)) (hc : h.2.2 a = .inl (t, n, .inr (.inr (.inr (.inr g))))) (ht1 : 4 ≤ t) (ht2 : t < 10) (ho : ∀ b, o = some b → (∃ fs, h.2.2 b = .inr (ci, fs)) ∧ 16 ≤ b ∧ b < h.1) (hoy : pm_oty ci = some t) (h1 : 16 ≤ a) (h2 : a < h.1) (hj : pm_in j n = true) (hk : j.toNatClampNeg = k) (hp : pc + 1 = pc_q) (kk : pm_R d mid pc_q ls st (pm_set h a (.inl (t, n, .inr (.inr (.inr (.inr (va_up g k o))))))) Q) : pm_R d mid pc ls (va_rf o :: .int j :: .ref a :: st) h Q := by
  subst hk
  cases o with
  | none => exact pm_R_aastN hM hf hc ht1 ht2 h1 h2 hj hp kk
  | some b =>
    obtain ⟨⟨fs, hb⟩, b1, b2⟩ := ho b rfl
    exact pm_R_aast hM hf hc hb hoy h1 h2 b1 b2 hj hp kk
/-- takeTexts -/
theorem cl_c59 {b : Nat} {g1 g2 g3 g4 : Nat → Option Nat} {xs : List Value} (ha : 16 ≤ a) (ha6 : a + 6 < h0.1) (hb : 16 ≤ b) (hb6 : b + 6 < h0.1) (hd : a + 6 < b ∨ b + 6 < a) (P : cl_TF a h0 s f pl tp f1 f2 f3 f4 c h) {v1 v2 v3 : Int32} (eb : h0.2.2 b = .inr (8, [.ref (b + 1), .int v1, .int v2, .int v3, .ref (b + 2), .ref (b + 3), .ref (b + 4), .ref (b + 5), .ref (b + 6)])) (e1 : h0.2.2 (b + 2) = .inl (4, 2, .inr (.inr (.inr (.inr g1))))) (e2 : h0.2.2 (b + 3) = .inl (5, 3, .inr (.inr (.inr (.inr g2))))) (e3 : h0.2.2 (b + 4) = .inl (6, 2, .inr (.inr (.inr (.inr g3))))) (e4 : h0.2.2 (b + 5) = .inl (7, 2, .inr (.inr (.inr (.inr g4))))) (w1 : ∀ i x, g1 i = some x → (∃ fs, h0.2.2 x = .inr (4, fs)) ∧ 16 ≤ x ∧ x < h0.1 ∧ (x < a ∨ a + 6 < x)) (w2 : ∀ i x, g2 i = some x → (∃ fs, h0.2.2 x = .inr (5, fs)) ∧ 16 ≤ x ∧ x < h0.1 ∧ (x < a ∨ a + 6 < x)) (w3 : ∀ i x, g3 i = some x → (∃ fs, h0.2.2 x = .inr (1, fs)) ∧ 16 ≤ x ∧ x < h0.1 ∧ (x < a ∨ a + 6 < x)) (w4 : ∀ i x, g4 i = some x → (∃ fs, h0.2.2 x = .inr (0, fs)) ∧ 16 ≤ x ∧ x < h0.1 ∧ (x < a ∨ a + 6 < x)) (K : ∀ h_q, cl_TF a h0 s f pl tp (va_up (va_up f1 0 (g1 0)) 1 (g1 1)) (va_up (va_up (va_up f2 0 (g2 0)) 1 (g2 1)) 2 (g2 2)) (va_up (va_up f3 0 (g3 0)) 1 (g3 1)) (va_up (va_up f4 0 (g4 0)) 1 (g4 1)) c h_q → Q none h_q) : pm_R (d + 0) 59 0 [.ref a, .ref b, pm_no] [] h Q := by
  obtain ⟨p1, p2, p3, p4, _⟩ := id P
  refine pm_R_op pm_M59 (pc_q := 1) (st_q := [.int 0]) rfl rfl rfl ?_
  refine pm_R_lo pm_M59 (pc_q := 2) (ls_q := [.ref a, .ref b, .int 0]) (st_q := []) rfl rfl rfl ?_
  refine pm_R_lo pm_M59 (pc_q := 3) rfl rfl rfl ?_
  refine pm_R_lo pm_M59 (pc_q := 4) rfl rfl rfl ?_
  refine pm_R_get pm_M59 (pc_q := 7) (v := .ref (a + 2)) rfl rfl P.2.2.2.1 ha (by rw [P.1]; omega) rfl rfl ?_
  refine pm_R_alen pm_M59 (pc_q := 8) (v := 2) rfl P.2.2.2.2.2.1 (by omega) (by rw [P.1]; omega) (by decide) rfl rfl ?_
  refine pm_R_br pm_M59 (pc_q := 11) (st_q := []) rfl rfl ?_
  refine pm_R_lo pm_M59 (pc_q := 12) rfl rfl rfl ?_
  refine pm_R_get pm_M59 (pc_q := 15) (v := .ref (a + 2)) rfl rfl P.2.2.2.1 ha (by rw [P.1]; omega) rfl rfl ?_
  refine pm_R_lo pm_M59 (pc_q := 16) rfl rfl rfl ?_
  refine pm_R_lo pm_M59 (pc_q := 17) rfl rfl rfl ?_
  refine pm_R_get pm_M59 (pc_q := 20) (v := .ref (b + 2)) rfl rfl ((P.2.2.1 b (by omega)).trans eb) hb (by rw [P.1]; omega) rfl rfl ?_
  refine pm_R_lo pm_M59 (pc_q := 21) rfl rfl rfl ?_
  refine pm_R_aald pm_M59 (pc_q := 22) (v := va_rf (g1 0)) rfl ((P.2.2.1 (b + 2) (by omega)).trans e1) (by decide) (by decide) (by omega) (by rw [P.1]; omega) rfl rfl rfl ?_
  refine cl_R_aastO pm_M59 (ci := 4) (k := 0) (pc_q := 23) rfl P.2.2.2.2.2.1 (by decide) (by decide) (fun x hx => by obtain ⟨⟨fs, q1⟩, q2, q3, q4⟩ := w1 0 x hx; exact ⟨⟨fs, (P.2.2.1 x q4).trans q1⟩, q2, by rw [P.1]; exact q3⟩) rfl (by omega) (by rw [P.1]; omega) rfl rfl rfl ?_
  have P1 := P.s2 (va_up f1 0 (g1 0))
  obtain ⟨h1, q1⟩ : ∃ z, pm_set h (a + 2) (.inl (4, 2, .inr (.inr (.inr (.inr (va_up f1 0 (g1 0))))))) = z := ⟨_, rfl⟩
  rw [q1] at P1 ⊢
  refine pm_R_lo pm_M59 (pc_q := 26) (ls_q := [.ref a, .ref b, .int 1]) (st_q := []) rfl rfl rfl ?_
  refine pm_R_br pm_M59 (pc_q := 2) (st_q := []) rfl rfl ?_
  refine pm_R_lo pm_M59 (pc_q := 3) rfl rfl rfl ?_
  refine pm_R_lo pm_M59 (pc_q := 4) rfl rfl rfl ?_
  refine pm_R_get pm_M59 (pc_q := 7) (v := .ref (a + 2)) rfl rfl P1.2.2.2.1 ha (by rw [P1.1]; omega) rfl rfl ?_
  refine pm_R_alen pm_M59 (pc_q := 8) (v := 2) rfl P1.2.2.2.2.2.1 (by omega) (by rw [P1.1]; omega) (by decide) rfl rfl ?_
  refine pm_R_br pm_M59 (pc_q := 11) (st_q := []) rfl rfl ?_
  refine pm_R_lo pm_M59 (pc_q := 12) rfl rfl rfl ?_
  refine pm_R_get pm_M59 (pc_q := 15) (v := .ref (a + 2)) rfl rfl P1.2.2.2.1 ha (by rw [P1.1]; omega) rfl rfl ?_
  refine pm_R_lo pm_M59 (pc_q := 16) rfl rfl rfl ?_
  refine pm_R_lo pm_M59 (pc_q := 17) rfl rfl rfl ?_
  refine pm_R_get pm_M59 (pc_q := 20) (v := .ref (b + 2)) rfl rfl ((P1.2.2.1 b (by omega)).trans eb) hb (by rw [P1.1]; omega) rfl rfl ?_
  refine pm_R_lo pm_M59 (pc_q := 21) rfl rfl rfl ?_
  refine pm_R_aald pm_M59 (pc_q := 22) (v := va_rf (g1 1)) rfl ((P1.2.2.1 (b + 2) (by omega)).trans e1) (by decide) (by decide) (by omega) (by rw [P1.1]; omega) rfl rfl rfl ?_
  refine cl_R_aastO pm_M59 (ci := 4) (k := 1) (pc_q := 23) rfl P1.2.2.2.2.2.1 (by decide) (by decide) (fun x hx => by obtain ⟨⟨fs, q1⟩, q2, q3, q4⟩ := w1 1 x hx; exact ⟨⟨fs, (P1.2.2.1 x q4).trans q1⟩, q2, by rw [P1.1]; exact q3⟩) rfl (by omega) (by rw [P1.1]; omega) rfl rfl rfl ?_
  have P2 := P1.s2 (va_up (va_up f1 0 (g1 0)) 1 (g1 1))
  obtain ⟨h2, q2⟩ : ∃ z, pm_set h1 (a + 2) (.inl (4, 2, .inr (.inr (.inr (.inr (va_up (va_up f1 0 (g1 0)) 1 (g1 1))))))) = z := ⟨_, rfl⟩
  rw [q2] at P2 ⊢
  refine pm_R_lo pm_M59 (pc_q := 26) (ls_q := [.ref a, .ref b, .int 2]) (st_q := []) rfl rfl rfl ?_
  refine pm_R_br pm_M59 (pc_q := 2) (st_q := []) rfl rfl ?_
  refine pm_R_lo pm_M59 (pc_q := 3) rfl rfl rfl ?_
  refine pm_R_lo pm_M59 (pc_q := 4) rfl rfl rfl ?_
  refine pm_R_get pm_M59 (pc_q := 7) (v := .ref (a + 2)) rfl rfl P2.2.2.2.1 ha (by rw [P2.1]; omega) rfl rfl ?_
  refine pm_R_alen pm_M59 (pc_q := 8) (v := 2) rfl P2.2.2.2.2.2.1 (by omega) (by rw [P2.1]; omega) (by decide) rfl rfl ?_
  refine pm_R_br pm_M59 (pc_q := 29) (st_q := []) rfl rfl ?_
  refine pm_R_op pm_M59 (pc_q := 30) (st_q := [.int 0]) rfl rfl rfl ?_
  refine pm_R_lo pm_M59 (pc_q := 31) (ls_q := [.ref a, .ref b, .int 0]) (st_q := []) rfl rfl rfl ?_
  refine pm_R_lo pm_M59 (pc_q := 32) rfl rfl rfl ?_
  refine pm_R_lo pm_M59 (pc_q := 33) rfl rfl rfl ?_
  refine pm_R_get pm_M59 (pc_q := 36) (v := .ref (a + 3)) rfl rfl P2.2.2.2.1 ha (by rw [P2.1]; omega) rfl rfl ?_
  refine pm_R_alen pm_M59 (pc_q := 37) (v := 3) rfl P2.2.2.2.2.2.2.1 (by omega) (by rw [P2.1]; omega) (by decide) rfl rfl ?_
  refine pm_R_br pm_M59 (pc_q := 40) (st_q := []) rfl rfl ?_
  refine pm_R_lo pm_M59 (pc_q := 41) rfl rfl rfl ?_
  refine pm_R_get pm_M59 (pc_q := 44) (v := .ref (a + 3)) rfl rfl P2.2.2.2.1 ha (by rw [P2.1]; omega) rfl rfl ?_
  refine pm_R_lo pm_M59 (pc_q := 45) rfl rfl rfl ?_
  refine pm_R_lo pm_M59 (pc_q := 46) rfl rfl rfl ?_
  refine pm_R_get pm_M59 (pc_q := 49) (v := .ref (b + 3)) rfl rfl ((P2.2.2.1 b (by omega)).trans eb) hb (by rw [P2.1]; omega) rfl rfl ?_
  refine pm_R_lo pm_M59 (pc_q := 50) rfl rfl rfl ?_
  refine pm_R_aald pm_M59 (pc_q := 51) (v := va_rf (g2 0)) rfl ((P2.2.2.1 (b + 3) (by omega)).trans e2) (by decide) (by decide) (by omega) (by rw [P2.1]; omega) rfl rfl rfl ?_
  refine cl_R_aastO pm_M59 (ci := 5) (k := 0) (pc_q := 52) rfl P2.2.2.2.2.2.2.1 (by decide) (by decide) (fun x hx => by obtain ⟨⟨fs, q1⟩, q2, q3, q4⟩ := w2 0 x hx; exact ⟨⟨fs, (P2.2.2.1 x q4).trans q1⟩, q2, by rw [P2.1]; exact q3⟩) rfl (by omega) (by rw [P2.1]; omega) rfl rfl rfl ?_
  have P3 := P2.s3 (va_up f2 0 (g2 0))
  obtain ⟨h3, q3⟩ : ∃ z, pm_set h2 (a + 3) (.inl (5, 3, .inr (.inr (.inr (.inr (va_up f2 0 (g2 0))))))) = z := ⟨_, rfl⟩
  rw [q3] at P3 ⊢
  refine pm_R_lo pm_M59 (pc_q := 55) (ls_q := [.ref a, .ref b, .int 1]) (st_q := []) rfl rfl rfl ?_
  refine pm_R_br pm_M59 (pc_q := 31) (st_q := []) rfl rfl ?_
  refine pm_R_lo pm_M59 (pc_q := 32) rfl rfl rfl ?_
  refine pm_R_lo pm_M59 (pc_q := 33) rfl rfl rfl ?_
  refine pm_R_get pm_M59 (pc_q := 36) (v := .ref (a + 3)) rfl rfl P3.2.2.2.1 ha (by rw [P3.1]; omega) rfl rfl ?_
  refine pm_R_alen pm_M59 (pc_q := 37) (v := 3) rfl P3.2.2.2.2.2.2.1 (by omega) (by rw [P3.1]; omega) (by decide) rfl rfl ?_
  refine pm_R_br pm_M59 (pc_q := 40) (st_q := []) rfl rfl ?_
  refine pm_R_lo pm_M59 (pc_q := 41) rfl rfl rfl ?_
  refine pm_R_get pm_M59 (pc_q := 44) (v := .ref (a + 3)) rfl rfl P3.2.2.2.1 ha (by rw [P3.1]; omega) rfl rfl ?_
  refine pm_R_lo pm_M59 (pc_q := 45) rfl rfl rfl ?_
  refine pm_R_lo pm_M59 (pc_q := 46) rfl rfl rfl ?_
  refine pm_R_get pm_M59 (pc_q := 49) (v := .ref (b + 3)) rfl rfl ((P3.2.2.1 b (by omega)).trans eb) hb (by rw [P3.1]; omega) rfl rfl ?_
  refine pm_R_lo pm_M59 (pc_q := 50) rfl rfl rfl ?_
  refine pm_R_aald pm_M59 (pc_q := 51) (v := va_rf (g2 1)) rfl ((P3.2.2.1 (b + 3) (by omega)).trans e2) (by decide) (by decide) (by omega) (by rw [P3.1]; omega) rfl rfl rfl ?_
  refine cl_R_aastO pm_M59 (ci := 5) (k := 1) (pc_q := 52) rfl P3.2.2.2.2.2.2.1 (by decide) (by decide) (fun x hx => by obtain ⟨⟨fs, q1⟩, q2, q3, q4⟩ := w2 1 x hx; exact ⟨⟨fs, (P3.2.2.1 x q4).trans q1⟩, q2, by rw [P3.1]; exact q3⟩) rfl (by omega) (by rw [P3.1]; omega) rfl rfl rfl ?_
  have P4 := P3.s3 (va_up (va_up f2 0 (g2 0)) 1 (g2 1))
  obtain ⟨h4, q4⟩ : ∃ z, pm_set h3 (a + 3) (.inl (5, 3, .inr (.inr (.inr (.inr (va_up (va_up f2 0 (g2 0)) 1 (g2 1))))))) = z := ⟨_, rfl⟩
  rw [q4] at P4 ⊢
  refine pm_R_lo pm_M59 (pc_q := 55) (ls_q := [.ref a, .ref b, .int 2]) (st_q := []) rfl rfl rfl ?_
  refine pm_R_br pm_M59 (pc_q := 31) (st_q := []) rfl rfl ?_
  refine pm_R_lo pm_M59 (pc_q := 32) rfl rfl rfl ?_
  refine pm_R_lo pm_M59 (pc_q := 33) rfl rfl rfl ?_
  refine pm_R_get pm_M59 (pc_q := 36) (v := .ref (a + 3)) rfl rfl P4.2.2.2.1 ha (by rw [P4.1]; omega) rfl rfl ?_
  refine pm_R_alen pm_M59 (pc_q := 37) (v := 3) rfl P4.2.2.2.2.2.2.1 (by omega) (by rw [P4.1]; omega) (by decide) rfl rfl ?_
  refine pm_R_br pm_M59 (pc_q := 40) (st_q := []) rfl rfl ?_
  refine pm_R_lo pm_M59 (pc_q := 41) rfl rfl rfl ?_
  refine pm_R_get pm_M59 (pc_q := 44) (v := .ref (a + 3)) rfl rfl P4.2.2.2.1 ha (by rw [P4.1]; omega) rfl rfl ?_
  refine pm_R_lo pm_M59 (pc_q := 45) rfl rfl rfl ?_
  refine pm_R_lo pm_M59 (pc_q := 46) rfl rfl rfl ?_
  refine pm_R_get pm_M59 (pc_q := 49) (v := .ref (b + 3)) rfl rfl ((P4.2.2.1 b (by omega)).trans eb) hb (by rw [P4.1]; omega) rfl rfl ?_
  refine pm_R_lo pm_M59 (pc_q := 50) rfl rfl rfl ?_
  refine pm_R_aald pm_M59 (pc_q := 51) (v := va_rf (g2 2)) rfl ((P4.2.2.1 (b + 3) (by omega)).trans e2) (by decide) (by decide) (by omega) (by rw [P4.1]; omega) rfl rfl rfl ?_
  refine cl_R_aastO pm_M59 (ci := 5) (k := 2) (pc_q := 52) rfl P4.2.2.2.2.2.2.1 (by decide) (by decide) (fun x hx => by obtain ⟨⟨fs, q1⟩, q2, q3, q4⟩ := w2 2 x hx; exact ⟨⟨fs, (P4.2.2.1 x q4).trans q1⟩, q2, by rw [P4.1]; exact q3⟩) rfl (by omega) (by rw [P4.1]; omega) rfl rfl rfl ?_
  have P5 := P4.s3 (va_up (va_up (va_up f2 0 (g2 0)) 1 (g2 1)) 2 (g2 2))
  obtain ⟨h5, q5⟩ : ∃ z, pm_set h4 (a + 3) (.inl (5, 3, .inr (.inr (.inr (.inr (va_up (va_up (va_up f2 0 (g2 0)) 1 (g2 1)) 2 (g2 2))))))) = z := ⟨_, rfl⟩
  rw [q5] at P5 ⊢
  refine pm_R_lo pm_M59 (pc_q := 55) (ls_q := [.ref a, .ref b, .int 3]) (st_q := []) rfl rfl rfl ?_
  refine pm_R_br pm_M59 (pc_q := 31) (st_q := []) rfl rfl ?_
  refine pm_R_lo pm_M59 (pc_q := 32) rfl rfl rfl ?_
  refine pm_R_lo pm_M59 (pc_q := 33) rfl rfl rfl ?_
  refine pm_R_get pm_M59 (pc_q := 36) (v := .ref (a + 3)) rfl rfl P5.2.2.2.1 ha (by rw [P5.1]; omega) rfl rfl ?_
  refine pm_R_alen pm_M59 (pc_q := 37) (v := 3) rfl P5.2.2.2.2.2.2.1 (by omega) (by rw [P5.1]; omega) (by decide) rfl rfl ?_
  refine pm_R_br pm_M59 (pc_q := 58) (st_q := []) rfl rfl ?_
  refine pm_R_op pm_M59 (pc_q := 59) (st_q := [.int 0]) rfl rfl rfl ?_
  refine pm_R_lo pm_M59 (pc_q := 60) (ls_q := [.ref a, .ref b, .int 0]) (st_q := []) rfl rfl rfl ?_
  refine pm_R_lo pm_M59 (pc_q := 61) rfl rfl rfl ?_
  refine pm_R_lo pm_M59 (pc_q := 62) rfl rfl rfl ?_
  refine pm_R_get pm_M59 (pc_q := 65) (v := .ref (a + 4)) rfl rfl P5.2.2.2.1 ha (by rw [P5.1]; omega) rfl rfl ?_
  refine pm_R_alen pm_M59 (pc_q := 66) (v := 2) rfl P5.2.2.2.2.2.2.2.1 (by omega) (by rw [P5.1]; omega) (by decide) rfl rfl ?_
  refine pm_R_br pm_M59 (pc_q := 69) (st_q := []) rfl rfl ?_
  refine pm_R_lo pm_M59 (pc_q := 70) rfl rfl rfl ?_
  refine pm_R_get pm_M59 (pc_q := 73) (v := .ref (a + 4)) rfl rfl P5.2.2.2.1 ha (by rw [P5.1]; omega) rfl rfl ?_
  refine pm_R_lo pm_M59 (pc_q := 74) rfl rfl rfl ?_
  refine pm_R_lo pm_M59 (pc_q := 75) rfl rfl rfl ?_
  refine pm_R_get pm_M59 (pc_q := 78) (v := .ref (b + 4)) rfl rfl ((P5.2.2.1 b (by omega)).trans eb) hb (by rw [P5.1]; omega) rfl rfl ?_
  refine pm_R_lo pm_M59 (pc_q := 79) rfl rfl rfl ?_
  refine pm_R_aald pm_M59 (pc_q := 80) (v := va_rf (g3 0)) rfl ((P5.2.2.1 (b + 4) (by omega)).trans e3) (by decide) (by decide) (by omega) (by rw [P5.1]; omega) rfl rfl rfl ?_
  refine cl_R_aastO pm_M59 (ci := 1) (k := 0) (pc_q := 81) rfl P5.2.2.2.2.2.2.2.1 (by decide) (by decide) (fun x hx => by obtain ⟨⟨fs, q1⟩, q2, q3, q4⟩ := w3 0 x hx; exact ⟨⟨fs, (P5.2.2.1 x q4).trans q1⟩, q2, by rw [P5.1]; exact q3⟩) rfl (by omega) (by rw [P5.1]; omega) rfl rfl rfl ?_
  have P6 := P5.s4 (va_up f3 0 (g3 0))
  obtain ⟨h6, q6⟩ : ∃ z, pm_set h5 (a + 4) (.inl (6, 2, .inr (.inr (.inr (.inr (va_up f3 0 (g3 0))))))) = z := ⟨_, rfl⟩
  rw [q6] at P6 ⊢
  refine pm_R_lo pm_M59 (pc_q := 84) (ls_q := [.ref a, .ref b, .int 1]) (st_q := []) rfl rfl rfl ?_
  refine pm_R_br pm_M59 (pc_q := 60) (st_q := []) rfl rfl ?_
  refine pm_R_lo pm_M59 (pc_q := 61) rfl rfl rfl ?_
  refine pm_R_lo pm_M59 (pc_q := 62) rfl rfl rfl ?_
  refine pm_R_get pm_M59 (pc_q := 65) (v := .ref (a + 4)) rfl rfl P6.2.2.2.1 ha (by rw [P6.1]; omega) rfl rfl ?_
  refine pm_R_alen pm_M59 (pc_q := 66) (v := 2) rfl P6.2.2.2.2.2.2.2.1 (by omega) (by rw [P6.1]; omega) (by decide) rfl rfl ?_
  refine pm_R_br pm_M59 (pc_q := 69) (st_q := []) rfl rfl ?_
  refine pm_R_lo pm_M59 (pc_q := 70) rfl rfl rfl ?_
  refine pm_R_get pm_M59 (pc_q := 73) (v := .ref (a + 4)) rfl rfl P6.2.2.2.1 ha (by rw [P6.1]; omega) rfl rfl ?_
  refine pm_R_lo pm_M59 (pc_q := 74) rfl rfl rfl ?_
  refine pm_R_lo pm_M59 (pc_q := 75) rfl rfl rfl ?_
  refine pm_R_get pm_M59 (pc_q := 78) (v := .ref (b + 4)) rfl rfl ((P6.2.2.1 b (by omega)).trans eb) hb (by rw [P6.1]; omega) rfl rfl ?_
  refine pm_R_lo pm_M59 (pc_q := 79) rfl rfl rfl ?_
  refine pm_R_aald pm_M59 (pc_q := 80) (v := va_rf (g3 1)) rfl ((P6.2.2.1 (b + 4) (by omega)).trans e3) (by decide) (by decide) (by omega) (by rw [P6.1]; omega) rfl rfl rfl ?_
  refine cl_R_aastO pm_M59 (ci := 1) (k := 1) (pc_q := 81) rfl P6.2.2.2.2.2.2.2.1 (by decide) (by decide) (fun x hx => by obtain ⟨⟨fs, q1⟩, q2, q3, q4⟩ := w3 1 x hx; exact ⟨⟨fs, (P6.2.2.1 x q4).trans q1⟩, q2, by rw [P6.1]; exact q3⟩) rfl (by omega) (by rw [P6.1]; omega) rfl rfl rfl ?_
  have P7 := P6.s4 (va_up (va_up f3 0 (g3 0)) 1 (g3 1))
  obtain ⟨h7, q7⟩ : ∃ z, pm_set h6 (a + 4) (.inl (6, 2, .inr (.inr (.inr (.inr (va_up (va_up f3 0 (g3 0)) 1 (g3 1))))))) = z := ⟨_, rfl⟩
  rw [q7] at P7 ⊢
  refine pm_R_lo pm_M59 (pc_q := 84) (ls_q := [.ref a, .ref b, .int 2]) (st_q := []) rfl rfl rfl ?_
  refine pm_R_br pm_M59 (pc_q := 60) (st_q := []) rfl rfl ?_
  refine pm_R_lo pm_M59 (pc_q := 61) rfl rfl rfl ?_
  refine pm_R_lo pm_M59 (pc_q := 62) rfl rfl rfl ?_
  refine pm_R_get pm_M59 (pc_q := 65) (v := .ref (a + 4)) rfl rfl P7.2.2.2.1 ha (by rw [P7.1]; omega) rfl rfl ?_
  refine pm_R_alen pm_M59 (pc_q := 66) (v := 2) rfl P7.2.2.2.2.2.2.2.1 (by omega) (by rw [P7.1]; omega) (by decide) rfl rfl ?_
  refine pm_R_br pm_M59 (pc_q := 87) (st_q := []) rfl rfl ?_
  refine pm_R_op pm_M59 (pc_q := 88) (st_q := [.int 0]) rfl rfl rfl ?_
  refine pm_R_lo pm_M59 (pc_q := 89) (ls_q := [.ref a, .ref b, .int 0]) (st_q := []) rfl rfl rfl ?_
  refine pm_R_lo pm_M59 (pc_q := 90) rfl rfl rfl ?_
  refine pm_R_lo pm_M59 (pc_q := 91) rfl rfl rfl ?_
  refine pm_R_get pm_M59 (pc_q := 94) (v := .ref (a + 5)) rfl rfl P7.2.2.2.1 ha (by rw [P7.1]; omega) rfl rfl ?_
  refine pm_R_alen pm_M59 (pc_q := 95) (v := 2) rfl P7.2.2.2.2.2.2.2.2.1 (by omega) (by rw [P7.1]; omega) (by decide) rfl rfl ?_
  refine pm_R_br pm_M59 (pc_q := 98) (st_q := []) rfl rfl ?_
  refine pm_R_lo pm_M59 (pc_q := 99) rfl rfl rfl ?_
  refine pm_R_get pm_M59 (pc_q := 102) (v := .ref (a + 5)) rfl rfl P7.2.2.2.1 ha (by rw [P7.1]; omega) rfl rfl ?_
  refine pm_R_lo pm_M59 (pc_q := 103) rfl rfl rfl ?_
  refine pm_R_lo pm_M59 (pc_q := 104) rfl rfl rfl ?_
  refine pm_R_get pm_M59 (pc_q := 107) (v := .ref (b + 5)) rfl rfl ((P7.2.2.1 b (by omega)).trans eb) hb (by rw [P7.1]; omega) rfl rfl ?_
  refine pm_R_lo pm_M59 (pc_q := 108) rfl rfl rfl ?_
  refine pm_R_aald pm_M59 (pc_q := 109) (v := va_rf (g4 0)) rfl ((P7.2.2.1 (b + 5) (by omega)).trans e4) (by decide) (by decide) (by omega) (by rw [P7.1]; omega) rfl rfl rfl ?_
  refine cl_R_aastO pm_M59 (ci := 0) (k := 0) (pc_q := 110) rfl P7.2.2.2.2.2.2.2.2.1 (by decide) (by decide) (fun x hx => by obtain ⟨⟨fs, q1⟩, q2, q3, q4⟩ := w4 0 x hx; exact ⟨⟨fs, (P7.2.2.1 x q4).trans q1⟩, q2, by rw [P7.1]; exact q3⟩) rfl (by omega) (by rw [P7.1]; omega) rfl rfl rfl ?_
  have P8 := P7.s5 (va_up f4 0 (g4 0))
  obtain ⟨h8, q8⟩ : ∃ z, pm_set h7 (a + 5) (.inl (7, 2, .inr (.inr (.inr (.inr (va_up f4 0 (g4 0))))))) = z := ⟨_, rfl⟩
  rw [q8] at P8 ⊢
  refine pm_R_lo pm_M59 (pc_q := 113) (ls_q := [.ref a, .ref b, .int 1]) (st_q := []) rfl rfl rfl ?_
  refine pm_R_br pm_M59 (pc_q := 89) (st_q := []) rfl rfl ?_
  refine pm_R_lo pm_M59 (pc_q := 90) rfl rfl rfl ?_
  refine pm_R_lo pm_M59 (pc_q := 91) rfl rfl rfl ?_
  refine pm_R_get pm_M59 (pc_q := 94) (v := .ref (a + 5)) rfl rfl P8.2.2.2.1 ha (by rw [P8.1]; omega) rfl rfl ?_
  refine pm_R_alen pm_M59 (pc_q := 95) (v := 2) rfl P8.2.2.2.2.2.2.2.2.1 (by omega) (by rw [P8.1]; omega) (by decide) rfl rfl ?_
  refine pm_R_br pm_M59 (pc_q := 98) (st_q := []) rfl rfl ?_
  refine pm_R_lo pm_M59 (pc_q := 99) rfl rfl rfl ?_
  refine pm_R_get pm_M59 (pc_q := 102) (v := .ref (a + 5)) rfl rfl P8.2.2.2.1 ha (by rw [P8.1]; omega) rfl rfl ?_
  refine pm_R_lo pm_M59 (pc_q := 103) rfl rfl rfl ?_
  refine pm_R_lo pm_M59 (pc_q := 104) rfl rfl rfl ?_
  refine pm_R_get pm_M59 (pc_q := 107) (v := .ref (b + 5)) rfl rfl ((P8.2.2.1 b (by omega)).trans eb) hb (by rw [P8.1]; omega) rfl rfl ?_
  refine pm_R_lo pm_M59 (pc_q := 108) rfl rfl rfl ?_
  refine pm_R_aald pm_M59 (pc_q := 109) (v := va_rf (g4 1)) rfl ((P8.2.2.1 (b + 5) (by omega)).trans e4) (by decide) (by decide) (by omega) (by rw [P8.1]; omega) rfl rfl rfl ?_
  refine cl_R_aastO pm_M59 (ci := 0) (k := 1) (pc_q := 110) rfl P8.2.2.2.2.2.2.2.2.1 (by decide) (by decide) (fun x hx => by obtain ⟨⟨fs, q1⟩, q2, q3, q4⟩ := w4 1 x hx; exact ⟨⟨fs, (P8.2.2.1 x q4).trans q1⟩, q2, by rw [P8.1]; exact q3⟩) rfl (by omega) (by rw [P8.1]; omega) rfl rfl rfl ?_
  have P9 := P8.s5 (va_up (va_up f4 0 (g4 0)) 1 (g4 1))
  obtain ⟨h9, q9⟩ : ∃ z, pm_set h8 (a + 5) (.inl (7, 2, .inr (.inr (.inr (.inr (va_up (va_up f4 0 (g4 0)) 1 (g4 1))))))) = z := ⟨_, rfl⟩
  rw [q9] at P9 ⊢
  refine pm_R_lo pm_M59 (pc_q := 113) (ls_q := [.ref a, .ref b, .int 2]) (st_q := []) rfl rfl rfl ?_
  refine pm_R_br pm_M59 (pc_q := 89) (st_q := []) rfl rfl ?_
  refine pm_R_lo pm_M59 (pc_q := 90) rfl rfl rfl ?_
  refine pm_R_lo pm_M59 (pc_q := 91) rfl rfl rfl ?_
  refine pm_R_get pm_M59 (pc_q := 94) (v := .ref (a + 5)) rfl rfl P9.2.2.2.1 ha (by rw [P9.1]; omega) rfl rfl ?_
  refine pm_R_alen pm_M59 (pc_q := 95) (v := 2) rfl P9.2.2.2.2.2.2.2.2.1 (by omega) (by rw [P9.1]; omega) (by decide) rfl rfl ?_
  refine pm_R_br pm_M59 (pc_q := 116) (st_q := []) rfl rfl ?_
  exact pm_R_ret pm_M59 (r := none) rfl rfl (K _ P9)
/-- takeFrom -/
theorem cl_c58 {b : Nat} {tp2 c2 : Nat → Int32} {g1 g2 g3 g4 : Nat → Option Nat} (ha : 16 ≤ a) (ha6 : a + 6 < h.1) (hb : 16 ≤ b) (hb6 : b + 6 < h.1) (hd : a + 6 < b ∨ b + 6 < a) (P : cl_TF a h s f pl tp f1 f2 f3 f4 c h) {v1 v2 v3 : Int32} (eb : h.2.2 b = .inr (8, [.ref (b + 1), .int v1, .int v2, .int v3, .ref (b + 2), .ref (b + 3), .ref (b + 4), .ref (b + 5), .ref (b + 6)])) (e0 : h.2.2 (b + 1) = .inl (2, 600, .inl tp2)) (e1 : h.2.2 (b + 2) = .inl (4, 2, .inr (.inr (.inr (.inr g1))))) (e2 : h.2.2 (b + 3) = .inl (5, 3, .inr (.inr (.inr (.inr g2))))) (e3 : h.2.2 (b + 4) = .inl (6, 2, .inr (.inr (.inr (.inr g3))))) (e4 : h.2.2 (b + 5) = .inl (7, 2, .inr (.inr (.inr (.inr g4))))) (e5 : h.2.2 (b + 6) = .inl (0, 4, .inl c2)) (w1 : ∀ i x, g1 i = some x → (∃ fs, h.2.2 x = .inr (4, fs)) ∧ 16 ≤ x ∧ x < h.1 ∧ (x < a ∨ a + 6 < x)) (w2 : ∀ i x, g2 i = some x → (∃ fs, h.2.2 x = .inr (5, fs)) ∧ 16 ≤ x ∧ x < h.1 ∧ (x < a ∨ a + 6 < x)) (w3 : ∀ i x, g3 i = some x → (∃ fs, h.2.2 x = .inr (1, fs)) ∧ 16 ≤ x ∧ x < h.1 ∧ (x < a ∨ a + 6 < x)) (w4 : ∀ i x, g4 i = some x → (∃ fs, h.2.2 x = .inr (0, fs)) ∧ 16 ≤ x ∧ x < h.1 ∧ (x < a ∨ a + 6 < x)) (K : ∀ h_q, cl_TF a h v1 v2 v3 (va_cpy tp2 tp 0 0 600) (va_up (va_up f1 0 (g1 0)) 1 (g1 1)) (va_up (va_up (va_up f2 0 (g2 0)) 1 (g2 1)) 2 (g2 2)) (va_up (va_up f3 0 (g3 0)) 1 (g3 1)) (va_up (va_up f4 0 (g4 0)) 1 (g4 1)) (va_cpy c2 c 0 0 4) h_q → Q none h_q) : pm_R (d + 1) 58 0 [.ref a, .ref b] [] h Q := by
  refine pm_R_lo pm_M58 (pc_q := 1) rfl rfl rfl ?_
  refine pm_R_get pm_M58 (pc_q := 4) (v := .ref (b + 1)) rfl rfl ((P.2.2.1 b (by omega)).trans eb) hb (by rw [P.1]; omega) rfl rfl ?_
  refine pm_R_op pm_M58 (pc_q := 5) (st_q := [.int 0, .ref (b + 1)]) rfl rfl rfl ?_
  refine pm_R_lo pm_M58 (pc_q := 6) rfl rfl rfl ?_
  refine pm_R_get pm_M58 (pc_q := 9) (v := .ref (a + 1)) rfl rfl P.2.2.2.1 ha (by rw [P.1]; omega) rfl rfl ?_
  refine pm_R_op pm_M58 (pc_q := 10) (st_q := [.int 0, .ref (a + 1), .int 0, .ref (b + 1)]) rfl rfl rfl ?_
  refine pm_R_op pm_M58 (pc_q := 13) (st_q := [.int 600, .int 0, .ref (a + 1), .int 0, .ref (b + 1)]) rfl rfl rfl ?_
  refine pm_R_acpB pm_M58 (pc_q := 16) rfl rfl rfl ((P.2.2.1 (b + 1) (by omega)).trans e0) P.2.2.2.2.1 (by omega) (by rw [P.1]; omega) (by omega) (by rw [P.1]; omega) (S := 0) (D := 0) (N := 600) rfl rfl rfl (by decide) (by decide) (by decide) (by decide) (by decide) (Nat.le_of_ble_eq_true rfl) rfl ?_
  have P1 := P.s1 (va_cpy tp2 tp 0 0 600)
  obtain ⟨h1, q1⟩ : ∃ z, pm_set h (a + 1) (.inl (2, 600, .inl (va_cpy tp2 tp 0 0 600))) = z := ⟨_, rfl⟩
  rw [q1] at P1 ⊢
  refine pm_R_lo pm_M58 (pc_q := 17) rfl rfl rfl ?_
  refine pm_R_lo pm_M58 (pc_q := 18) rfl rfl rfl ?_
  refine pm_R_get pm_M58 (pc_q := 21) (v := .int v1) rfl rfl ((P1.2.2.1 b (by omega)).trans eb) hb (by rw [P1.1]; omega) rfl rfl ?_
  refine pm_R_put pm_M58 (pc_q := 24) (fs_q := [.ref (a + 1), .int v1, .int f, .int pl, .ref (a + 2), .ref (a + 3), .ref (a + 4), .ref (a + 5), .ref (a + 6)]) rfl rfl rfl P1.2.2.2.1 ha (by rw [P1.1]; omega) (Nat.le_of_ble_eq_true rfl) rfl (Or.inl rfl) rfl rfl ?_
  have P2 := P1.s0 v1 f pl
  obtain ⟨h2, q2⟩ : ∃ z, pm_set h1 a (.inr (8, [.ref (a + 1), .int v1, .int f, .int pl, .ref (a + 2), .ref (a + 3), .ref (a + 4), .ref (a + 5), .ref (a + 6)])) = z := ⟨_, rfl⟩
  rw [q2] at P2 ⊢
  refine pm_R_lo pm_M58 (pc_q := 25) rfl rfl rfl ?_
  refine pm_R_lo pm_M58 (pc_q := 26) rfl rfl rfl ?_
  refine pm_R_get pm_M58 (pc_q := 29) (v := .int v2) rfl rfl ((P2.2.2.1 b (by omega)).trans eb) hb (by rw [P2.1]; omega) rfl rfl ?_
  refine pm_R_put pm_M58 (pc_q := 32) (fs_q := [.ref (a + 1), .int v1, .int v2, .int pl, .ref (a + 2), .ref (a + 3), .ref (a + 4), .ref (a + 5), .ref (a + 6)]) rfl rfl rfl P2.2.2.2.1 ha (by rw [P2.1]; omega) (Nat.le_of_ble_eq_true rfl) rfl (Or.inl rfl) rfl rfl ?_
  have P3 := P2.s0 v1 v2 pl
  obtain ⟨h3, q3⟩ : ∃ z, pm_set h2 a (.inr (8, [.ref (a + 1), .int v1, .int v2, .int pl, .ref (a + 2), .ref (a + 3), .ref (a + 4), .ref (a + 5), .ref (a + 6)])) = z := ⟨_, rfl⟩
  rw [q3] at P3 ⊢
  refine pm_R_lo pm_M58 (pc_q := 33) rfl rfl rfl ?_
  refine pm_R_lo pm_M58 (pc_q := 34) rfl rfl rfl ?_
  refine pm_R_get pm_M58 (pc_q := 37) (v := .int v3) rfl rfl ((P3.2.2.1 b (by omega)).trans eb) hb (by rw [P3.1]; omega) rfl rfl ?_
  refine pm_R_put pm_M58 (pc_q := 40) (fs_q := [.ref (a + 1), .int v1, .int v2, .int v3, .ref (a + 2), .ref (a + 3), .ref (a + 4), .ref (a + 5), .ref (a + 6)]) rfl rfl rfl P3.2.2.2.1 ha (by rw [P3.1]; omega) (Nat.le_of_ble_eq_true rfl) rfl (Or.inl rfl) rfl rfl ?_
  have P4 := P3.s0 v1 v2 v3
  obtain ⟨h4, q4⟩ : ∃ z, pm_set h3 a (.inr (8, [.ref (a + 1), .int v1, .int v2, .int v3, .ref (a + 2), .ref (a + 3), .ref (a + 4), .ref (a + 5), .ref (a + 6)])) = z := ⟨_, rfl⟩
  rw [q4] at P4 ⊢
  refine pm_R_lo pm_M58 (pc_q := 41) rfl rfl rfl ?_
  refine pm_R_get pm_M58 (pc_q := 44) (v := .ref (b + 6)) rfl rfl ((P4.2.2.1 b (by omega)).trans eb) hb (by rw [P4.1]; omega) rfl rfl ?_
  refine pm_R_op pm_M58 (pc_q := 45) (st_q := [.int 0, .ref (b + 6)]) rfl rfl rfl ?_
  refine pm_R_lo pm_M58 (pc_q := 46) rfl rfl rfl ?_
  refine pm_R_get pm_M58 (pc_q := 49) (v := .ref (a + 6)) rfl rfl P4.2.2.2.1 ha (by rw [P4.1]; omega) rfl rfl ?_
  refine pm_R_op pm_M58 (pc_q := 50) (st_q := [.int 0, .ref (a + 6), .int 0, .ref (b + 6)]) rfl rfl rfl ?_
  refine pm_R_op pm_M58 (pc_q := 51) (st_q := [.int 4, .int 0, .ref (a + 6), .int 0, .ref (b + 6)]) rfl rfl rfl ?_
  refine pm_R_acp pm_M58 (pc_q := 54) rfl rfl rfl ((P4.2.2.1 (b + 6) (by omega)).trans e5) P4.2.2.2.2.2.2.2.2.2 (by omega) (by rw [P4.1]; omega) (by omega) (by rw [P4.1]; omega) (S := 0) (D := 0) (N := 4) rfl rfl rfl (by decide) (by decide) (by decide) (by decide) (by decide) (Nat.le_of_ble_eq_true rfl) rfl ?_
  have P5 := P4.s6 (va_cpy c2 c 0 0 4)
  obtain ⟨h5, q5⟩ : ∃ z, pm_set h4 (a + 6) (.inl (0, 4, .inl (va_cpy c2 c 0 0 4))) = z := ⟨_, rfl⟩
  rw [q5] at P5 ⊢
  refine pm_R_lo pm_M58 (pc_q := 55) rfl rfl rfl ?_
  refine pm_R_lo pm_M58 (pc_q := 56) rfl rfl rfl ?_
  refine pm_R_cv pm_M58 (pc_q := 59) (a := a) (ra := [.ref b]) (rest := []) (ls_q := [.ref a, .ref b, pm_no]) rfl rfl (Or.inl rfl) pm_M59 P5.2.2.2.1 rfl ha (by rw [P5.1]; omega) rfl rfl (Nat.le_of_ble_eq_true rfl) rfl rfl ?_
  refine cl_c59 (d := d) (xs := []) ha ha6 hb hb6 hd P5 eb e1 e2 e3 e4 w1 w2 w3 w4 (fun h_q P' => ?_)
  show pm_R _ 58 59 [.ref a, .ref b] [] _ _
  exact pm_R_ret pm_M58 (r := none) rfl rfl (K h_q P')
end
end
section
section
/-! images: made, taken, given back -/
variable {d : Nat} {h : pm_H} {Q : Option Value → pm_H → Prop} {ck : cl_K} {E : Nat → pm_E} {m : Nat → Int32} {o : Nat → Option Nat}
theorem cl_O.upo {k j : Nat} {f : Nat → Option Nat} {x : Option Nat} (h : cl_O ck k f) (hx : ∀ b, x = some b → ck b = k) : cl_O ck k (va_up f j x) := fun i y hy => by
  by_cases e : i = j
  · rw [e, show va_up f j x j = x by simp [va_up]] at hy; exact hx y hy
  · rw [show va_up f j x i = f i by simp [va_up, e]] at hy; exact h i y hy
/-- what is counted is there, as functions -/
def cl_NF (f1 f2 f3 f4 : Nat → Option Nat) (c : Nat → Int32) : Prop := (∀ i : Nat, (i : Int) < (c 0).toInt → ∃ b, f1 i = some b) ∧ (∀ i : Nat, (i : Int) < (c 1).toInt → ∃ b, f2 i = some b) ∧ (∀ i : Nat, (i : Int) < (c 2).toInt → ∃ b, f3 i = some b) ∧ (∀ i : Nat, (i : Int) < (c 3).toInt → ∃ b, f4 i = some b)
theorem cl_N.fn {l r me ho co : pm_E} {f1 f2 f3 f4 : Nat → Option Nat} {c : Nat → Int32} (N : cl_N l r me ho co) (e1 : l = .inl (4, 2, .inr (.inr (.inr (.inr f1))))) (e2 : r = .inl (5, 3, .inr (.inr (.inr (.inr f2))))) (e3 : me = .inl (6, 2, .inr (.inr (.inr (.inr f3))))) (e4 : ho = .inl (7, 2, .inr (.inr (.inr (.inr f4))))) (e5 : co = .inl (0, 4, .inl c)) : cl_NF f1 f2 f3 f4 c := by
  obtain ⟨n1, n2, n3, n4⟩ := N c e5
  exact ⟨n1 _ e1, n2 _ e2, n3 _ e3, n4 _ e4⟩
theorem cl_NF.back {l r me ho co : pm_E} {f1 f2 f3 f4 : Nat → Option Nat} {c : Nat → Int32} (N : cl_NF f1 f2 f3 f4 c) (e1 : l = .inl (4, 2, .inr (.inr (.inr (.inr f1))))) (e2 : r = .inl (5, 3, .inr (.inr (.inr (.inr f2))))) (e3 : me = .inl (6, 2, .inr (.inr (.inr (.inr f3))))) (e4 : ho = .inl (7, 2, .inr (.inr (.inr (.inr f4))))) (e5 : co = .inl (0, 4, .inl c)) : cl_N l r me ho co := by
  intro c_q hc
  rw [e5] at hc; cases hc
  refine ⟨fun f hf => ?_, fun f hf => ?_, fun f hf => ?_, fun f hf => ?_⟩
  · rw [e1] at hf; cases hf; exact N.1
  · rw [e2] at hf; cases hf; exact N.2.1
  · rw [e3] at hf; cases hf; exact N.2.2.1
  · rw [e4] at hf; cases hf; exact N.2.2.2
theorem cl_NF.cp {f1 f2 f3 f4 g1 g2 g3 g4 : Nat → Option Nat} {c c2 : Nat → Int32} (N : cl_NF g1 g2 g3 g4 c2) (hc : ∀ j, sf_B 0 (if j = 1 then 3 else 2) (c2 j)) : cl_NF (va_up (va_up f1 0 (g1 0)) 1 (g1 1)) (va_up (va_up (va_up f2 0 (g2 0)) 1 (g2 1)) 2 (g2 2)) (va_up (va_up f3 0 (g3 0)) 1 (g3 1)) (va_up (va_up f4 0 (g4 0)) 1 (g4 1)) (va_cpy c2 c 0 0 4) := by
  have b0 := (hc 0).2
  have b1 := (hc 1).2
  have b2 := (hc 2).2
  have b3 := (hc 3).2
  have k : ∀ j, j < 4 → va_cpy c2 c 0 0 4 j = c2 j := fun j hj => cl_cpI (by omega) hj
  have u2 : ∀ (f g : Nat → Option Nat) (i : Nat), i < 2 → va_up (va_up f 0 (g 0)) 1 (g 1) i = g i := fun f g i hi => by
    rcases (show i = 0 ∨ i = 1 by omega) with z | z <;> (subst z; simp [va_up])
  have u3 : ∀ (f g : Nat → Option Nat) (i : Nat), i < 3 → va_up (va_up (va_up f 0 (g 0)) 1 (g 1)) 2 (g 2) i = g i := fun f g i hi => by
    rcases (show i = 0 ∨ i = 1 ∨ i = 2 by omega) with z | z | z <;> (subst z; simp [va_up])
  simp at b0 b1 b2 b3
  refine ⟨fun i hi => ?_, fun i hi => ?_, fun i hi => ?_, fun i hi => ?_⟩
  · rw [k 0 (by decide)] at hi; rw [u2 _ _ _ (by omega)]; exact N.1 i hi
  · rw [k 1 (by decide)] at hi; rw [u3 _ _ _ (by omega)]; exact N.2.1 i hi
  · rw [k 2 (by decide)] at hi; rw [u2 _ _ _ (by omega)]; exact N.2.2.1 i hi
  · rw [k 3 (by decide)] at hi; rw [u2 _ _ _ (by omega)]; exact N.2.2.2 i hi
theorem cl_cpB {c c2 : Nat → Int32} (h : ∀ j, sf_B 0 (if j = 1 then 3 else 2) (c j)) (h2 : ∀ j, sf_B 0 (if j = 1 then 3 else 2) (c2 j)) : ∀ j, sf_B 0 (if j = 1 then 3 else 2) (va_cpy c2 c 0 0 4 j) := fun j => by
  rcases Nat.lt_or_ge j 4 with z | z
  · rw [cl_cpI (i := j) (by omega) z]; exact h2 j
  · rw [cl_cpO (by omega)]; exact h j
/-- a cell of a text is none of an image's -/
theorem cl_off {t x k : Nat} (G : cl_G ck E) (hk : ck t = 15) (hx : ck x = k) (h15 : k < 15 ∨ 21 < k) : x < t ∨ t + 6 < x := by
  obtain ⟨q1, q2, q3, q4, q5, q6⟩ := G.2.2.2.2.2.1 t hk
  rcases Nat.lt_or_ge x t with z | z
  · exact Or.inl z
  · rcases Nat.lt_or_ge (t + 6) x with y | y
    · exact Or.inr y
    · exfalso
      rcases (show x = t ∨ x = t + 1 ∨ x = t + 2 ∨ x = t + 3 ∨ x = t + 4 ∨ x = t + 5 ∨ x = t + 6 by omega) with w | w | w | w | w | w | w <;> (subst w; omega)
theorem cl_off15 {t x : Nat} (G : cl_G ck E) (hk : ck t = 15) (hx : ck x = 15) (hne : x ≠ t) (i : Nat) (hi : i ≤ 6) : x + i < t ∨ t + 6 < x + i := by
  obtain ⟨q1, q2, q3, q4, q5, q6⟩ := G.2.2.2.2.2.1 t hk
  obtain ⟨r1, r2, r3, r4, r5, r6⟩ := G.2.2.2.2.2.1 x hx
  have kt : ∀ j, j ≤ 6 → ck (t + j) = 15 + j := fun j hj => by
    rcases (show j = 0 ∨ j = 1 ∨ j = 2 ∨ j = 3 ∨ j = 4 ∨ j = 5 ∨ j = 6 by omega) with w | w | w | w | w | w | w <;> (subst w; assumption)
  have kx : ∀ j, j ≤ 6 → ck (x + j) = 15 + j := fun j hj => by
    rcases (show j = 0 ∨ j = 1 ∨ j = 2 ∨ j = 3 ∨ j = 4 ∨ j = 5 ∨ j = 6 by omega) with w | w | w | w | w | w | w <;> (subst w; assumption)
  rcases Nat.lt_or_ge (x + i) t with z | z
  · exact Or.inl z
  · rcases Nat.lt_or_ge (t + 6) (x + i) with y | y
    · exact Or.inr y
    · exfalso
      have a := kt (x + i - t) (by omega)
      rw [show t + (x + i - t) = x + i by omega] at a
      have b := kx i hi
      omega
/-- an image changes, and nothing else -/
theorem cl_T.img {t : Nat} {h_q : pm_H} (G : cl_G ck E) (T : cl_T ck E m o h) (hk : ck t = 15) (h1 : h_q.1 = h.1) (hF : ∀ x, (x < t ∨ t + 6 < x) → h_q.2.2 x = h.2.2 x) (I : cl_I ck h_q t) : cl_T ck E m o h_q := by
  have ht := G.1 t (by rw [hk]; decide)
  have lo : ∀ x, x < 72 → h_q.2.2 x = h.2.2 x := fun x hx => hF x (by omega)
  obtain ⟨t1, t2, t3, t4, t5, t6, t7, t8, t9, t10, t11, t12, t13, t14, t15⟩ := T
  refine ⟨by omega, by rw [lo 16 (by decide)]; exact t2, by rw [lo 17 (by decide)]; exact t3, by rw [lo 25 (by decide)]; exact t4, by rw [lo 30 (by decide)]; exact t5, by rw [lo 31 (by decide)]; exact t6, by rw [lo 33 (by decide)]; exact t7, t8, fun a a1 a2 => by rw [lo a (by omega)]; exact t9 a a1 a2, ?_, fun a ha => by rw [h1]; exact t11 a ha, fun a a1 a2 => ?_, ?_, t14, fun a ha => by rw [lo a (by omega)]; exact t15 a ha⟩
  · rw [lo 19 (by decide), lo 20 (by decide), lo 21 (by decide), lo 22 (by decide), lo 23 (by decide)]; exact t10
  · rw [hF a (cl_off G hk rfl (Or.inl (by omega)))]; exact t12 a a1 a2
  · obtain ⟨d15, d22, d23, d24, d25, d26, d27, d28⟩ := t13
    have k22 : ∀ a k, 21 < k → ck a = k → h_q.2.2 a = h.2.2 a := fun a k h21 e => hF a (cl_off G hk e (Or.inr h21))
    refine ⟨fun a ha => ?_, fun a ha => ?_, fun a ha => ?_, fun a ha => ?_, fun a ha => ?_, fun a ha => ?_, fun a ha => ?_, fun a ha => ?_⟩
    · by_cases e : a = t
      · subst e; exact I
      · have hx := d15 a ha
        have o0 := hF (a + 0) (cl_off15 G hk ha e 0 (by decide))
        have o1 := hF (a + 1) (cl_off15 G hk ha e 1 (by decide))
        have o2 := hF (a + 2) (cl_off15 G hk ha e 2 (by decide))
        have o3 := hF (a + 3) (cl_off15 G hk ha e 3 (by decide))
        have o4 := hF (a + 4) (cl_off15 G hk ha e 4 (by decide))
        have o5 := hF (a + 5) (cl_off15 G hk ha e 5 (by decide))
        have o6 := hF (a + 6) (cl_off15 G hk ha e 6 (by decide))
        rw [Nat.add_zero] at o0
        rw [← o0, ← o1, ← o2, ← o3, ← o4, ← o5, ← o6] at hx
        exact hx
    · rw [k22 a _ (by decide) ha]; exact d22 a ha
    · rw [k22 a _ (by decide) ha]; exact d23 a ha
    · rw [k22 a _ (by decide) ha]; exact d24 a ha
    · rw [k22 a _ (by decide) ha]; exact d25 a ha
    · rw [k22 a _ (by decide) ha]; exact d26 a ha
    · rw [k22 a _ (by decide) ha]; exact d27 a ha
    · rw [k22 a _ (by decide) ha]; exact d28 a ha
theorem cl_txt1 {x : Nat} (G : cl_G ck E) (T : cl_T ck E m o h) (z : ck x = 1) : (∃ fs, h.2.2 x = .inr (4, fs)) ∧ 16 ≤ x ∧ x < h.1 := by
  obtain ⟨_, _, _, _, _, _, _, _, _, _, _, ob, _⟩ := (G.2.1 x z).2.2.2.2.2
  exact ⟨⟨_, T.im z (by decide) (by decide) ob⟩, G.ge z (by decide), T.al z (by decide)⟩
theorem cl_txt2 {x : Nat} (G : cl_G ck E) (T : cl_T ck E m o h) (z : ck x = 7) : (∃ fs, h.2.2 x = .inr (5, fs)) ∧ 16 ≤ x ∧ x < h.1 := by
  obtain ⟨_, _, _, _, ob, _⟩ := (G.2.2.1 x z).2
  exact ⟨⟨_, T.im z (by decide) (by decide) ob⟩, G.ge z (by decide), T.al z (by decide)⟩
theorem cl_txt3 {x : Nat} (G : cl_G ck E) (T : cl_T ck E m o h) (z : ck x = 9) : (∃ fs, h.2.2 x = .inr (1, fs)) ∧ 16 ≤ x ∧ x < h.1 := by
  obtain ⟨_, _, _, _, _, _, _, _, ob, _⟩ := (G.2.2.2.1 x z).2.2.2
  exact ⟨⟨_, T.im z (by decide) (by decide) ob⟩, G.ge z (by decide), T.al z (by decide)⟩
theorem cl_txt4 {x : Nat} (G : cl_G ck E) (T : cl_T ck E m o h) (z : ck x = 13) : (∃ fs, h.2.2 x = .inr (0, fs)) ∧ 16 ≤ x ∧ x < h.1 := by
  obtain ⟨_, _, _, ob, _⟩ := (G.2.2.2.2.1 x z).2
  exact ⟨⟨_, T.im z (by decide) (by decide) ob⟩, G.ge z (by decide), T.al z (by decide)⟩
end
end
section
section
/-! room: charts are made once -/
def cl_p37 (f : Nat → Option Nat) : Nat := (if f 0 = none then 24466 else 0) + (if f 1 = none then 24466 else 0)
def cl_p0 (x : Option Nat) : Nat := if x = none then 23403 else 0
theorem cl_p37_up {f : Nat → Option Nat} {a0 : Int32} {c : Nat} (hj : pm_in a0 2 = true) (hs : f a0.toNatClampNeg = none) : cl_p37 (va_up f a0.toNatClampNeg (some c)) + 24466 = cl_p37 f := by
  unfold pm_in at hj
  rw [Bool.and_eq_true] at hj
  have hlt := of_decide_eq_true hj.2
  generalize a0.toNatClampNeg = k at hs hlt
  unfold cl_p37
  rcases (show k = 0 ∨ k = 1 by omega) with z | z
  · subst z
    have e1 : va_up f 0 (some c) 1 = f 1 := cl_upO (by decide)
    have e0 : va_up f 0 (some c) 0 = some c := cl_upS
    simp [e0, e1, hs]
    try omega
  · subst z
    have e1 : va_up f 1 (some c) 1 = some c := cl_upS
    have e0 : va_up f 1 (some c) 0 = f 0 := cl_upO (by decide)
    simp [e0, e1, hs]
theorem cl_p0x {o o9 oc : Nat → Option Nat} {a b c d : Nat} (q6 : ∀ x, oc 0 = some x → o9 0 = some x ∧ c = d ∧ a ≤ b) (q7 : ∃ x, o9 0 = some x) (q8 : a ≤ b + 23403) (e0 : oc 0 = o 0) {s : Nat} (hs : b ≤ s) : cl_p0 (o9 0) + a ≤ cl_p0 (o 0) + s := by
  obtain ⟨x, hx⟩ := q7
  unfold cl_p0
  rw [hx, if_neg (by simp)]
  rw [← e0]
  cases e : oc 0 with
  | none => rw [if_pos rfl]; omega
  | some y => have := (q6 y e).2.2; rw [if_neg (by simp)]; omega
theorem cl_o0 {o o_q : Nat → Option Nat} {x : pm_E} (h1 : x = .inr (11, cl_f16 o)) (h2 : x = .inr (11, cl_f16 o_q)) : o_q 0 = o 0 := by
  rw [h1] at h2
  have h3 : cl_f16 o = cl_f16 o_q := by injection h2 with h; injection h
  unfold cl_f16 at h3
  have h4 : va_rf (o 0) = va_rf (o_q 0) := by
    injection h3 with _ h; injection h with _ h; injection h with _ h; injection h with _ h; injection h with _ h; injection h
  cases ha : o 0 with
  | none =>
    cases hb : o_q 0 with
    | none => rfl
    | some y => rw [ha, hb] at h4; exact absurd h4 (by simp [va_rf])
  | some x =>
    cases hb : o_q 0 with
    | none => rw [ha, hb] at h4; exact absurd h4 (by simp [va_rf])
    | some y =>
      rw [ha, hb] at h4
      have h5 : x = y := by simpa [va_rf] using h4
      rw [h5]
/-- shortRows: the chart is there, or made -/
theorem cl_c122x {d : Nat} {ck : cl_K} {E : Nat → pm_E} {m : Nat → Int32} {o : Nat → Option Nat} {h : pm_H} {Q : Option Value → pm_H → Prop} {a0 : Int32} {lo : Nat} {fl : Nat → Option Nat} (G : cl_G ck E) (T : cl_T ck E m o h) (hj : pm_in a0 2 = true) (el : h.2.2 19 = .inl (4, 2, .inr (.inr (.inr (.inr fl))))) (hl : fl a0.toNatClampNeg = some lo) (hkl : ck lo = 1) {fs : Nat → Option Nat} (es : h.2.2 37 = .inl (9, 2, .inr (.inr (.inr (.inr fs))))) (K : ∀ (c : Nat) (ck_q : cl_K) (h_q : pm_H), (∀ b, b < h.1 → ck_q b = ck b) → cl_G ck_q E → cl_T ck_q E m o h_q → cl_F ck [37] 5 24466 h h_q → ck_q c = 24 → cl_NN ck_q h_q c → (∀ c, ck c = 24 → cl_NN ck h c → cl_NN ck_q h_q c) → (∀ a, a < 72 → a ≠ 37 → h_q.2.2 a = h.2.2 a) → (∃ fs_q, h_q.2.2 37 = .inl (9, 2, .inr (.inr (.inr (.inr fs_q)))) ∧ cl_p37 fs_q + h_q.2.1 ≤ cl_p37 fs + h.2.1) → Q (some (.ref c)) h_q) : pm_R (d + 1) 122 0 [.ref 16, .int a0] [] h Q := by
  obtain ⟨fs0, es0, hO⟩ := T.C 37 (by decide) (by decide)
  rw [es] at es0
  cases es0
  refine pm_R_lo pm_M122 (pc_q := 1) rfl rfl rfl ?_
  refine pm_R_get pm_M122 (pc_q := 4) (v := .ref 37) rfl rfl T.e16 (by decide) (T.lt (by decide)) rfl rfl ?_
  refine pm_R_lo pm_M122 (pc_q := 5) rfl rfl rfl ?_
  rcases hs : fs a0.toNatClampNeg with _ | c
  · refine pm_R_aald pm_M122 (pc_q := 6) (v := .null) rfl es (by decide) (by decide) (by decide) (T.lt (by decide)) hj (by rw [hs]; rfl) rfl ?_
    refine pm_R_br pm_M122 (pc_q := 9) rfl rfl ?_
    refine pm_R_lo pm_M122 (pc_q := 10) rfl rfl rfl ?_
    refine pm_R_get pm_M122 (pc_q := 13) (v := .ref 37) rfl rfl T.e16 (by decide) (T.lt (by decide)) rfl rfl ?_
    refine pm_R_lo pm_M122 (pc_q := 14) rfl rfl rfl ?_
    refine pm_R_new pm_M122 (pc_q := 17) (fs := [.null, .null, .null, .null, .null, .int 0, .int 0, .int 0, .int 0]) rfl rfl rfl rfl rfl ?_
    refine pm_R_op pm_M122 (pc_q := 18) (st_q := [.ref h.1, .ref h.1, .int a0, .ref 37]) rfl rfl rfl ?_
    refine pm_R_ci pm_M122 (pc_q := 21) (a := h.1) (ra := []) (rest := [.ref h.1, .int a0, .ref 37]) (ls_q := [.ref h.1]) rfl rfl (Or.inr rfl) pm_M123 rfl rfl (Nat.le_of_ble_eq_true rfl) rfl rfl ?_
    have h72 := T.1
    refine cl_x123 (d := d) (t := h.1) (by simp [pm_push, va_up]) (by omega) (Nat.lt_succ_self _) (fun h2 e1 e2 t2 c1 c2 c3 c4 oo => ?_)
    have e1' : h2.1 = h.1 + 5 := e1
    have e2' : h2.2.1 = h.2.1 + 24466 := e2.trans (by show h.2.1 + 9 + 24457 = _; omega)
    have hh : ∀ a, a < h.1 → h2.2.2 a = h.2.2 a := fun a ha => by
      rw [oo a (by omega) (by show a < h.1 + 1; omega)]
      have : a ≠ h.1 := by omega
      simp [pm_push, va_up, this]
    have G2 : cl_G (cl_gr ck h.1 5 24) E := cl_gr_G G T.2.2.2.2.2.2.2.2.2.2.1 h72 (by unfold cl_gp; omega) (fun _ _ => rfl) (fun z => absurd z (by decide)) (fun z => absurd z (by decide)) (fun z => absurd z (by decide)) (fun z => absurd z (by decide))
    have T2 : cl_T (cl_gr ck h.1 5 24) E m o h2 := T.grow G (by unfold cl_gp; omega) (fun _ _ => rfl) hh (by omega) (fun z => absurd z (by decide)) (fun z => absurd z (by decide)) (fun z => absurd z (by decide)) (fun _ => ⟨⟨0, -1, -1, -1, ⟨by decide, by decide⟩, ⟨by decide, by decide⟩, t2⟩, ⟨_, c1⟩, ⟨_, c2⟩, ⟨_, c3⟩, ⟨_, c4⟩⟩)
    have lt : ∀ b, b < h.1 → cl_gr ck h.1 5 24 b = ck b := fun b hb => cl_gr_lt hb
    have old := cl_gr_old (n := 5) (k0 := 24) T.2.2.2.2.2.2.2.2.2.2.1
    have kc : cl_gr ck h.1 5 24 h.1 = 24 := cl_gr_new0 (by decide)
    show pm_R _ 122 21 [.ref 16, .int a0] [.ref h.1, .int a0, .ref 37] _ _
    refine pm_R_aast pm_M122 (pc_q := 22) rfl ((hh 37 (by omega)).trans es) t2 rfl (by decide) (T2.lt (by decide)) (by omega) (by omega) hj rfl ?_
    have T3 := T2.put37 G2 (f := va_up fs a0.toNatClampNeg (some h.1)) (fun i b hb => by
      by_cases e : i = a0.toNatClampNeg
      · rw [e] at hb; rw [show va_up fs a0.toNatClampNeg (some h.1) a0.toNatClampNeg = some h.1 by simp [va_up]] at hb; cases hb; exact kc
      · rw [show va_up fs a0.toNatClampNeg (some h.1) i = fs i by simp [va_up, e]] at hb
        have := hO i b hb
        rw [old b (by rw [this]; decide)]; exact this)
    have F3 : cl_F ck [37] 5 24466 h (pm_set h2 37 (.inl (9, 2, .inr (.inr (.inr (.inr (va_up fs a0.toNatClampNeg (some h.1)))))))) := by
      refine ⟨h72, by show h.1 ≤ h2.1; omega, by show h2.1 ≤ _; omega, by show h2.2.1 ≤ _; omega, fun a b1 b2 b3 => ?_⟩
      have : a ≠ 37 := fun e => b2 (by rw [e]; exact List.mem_singleton.mpr rfl)
      rw [cl_set_ne this]; exact hh a b1
    refine cl_c122_t (d := d) (lo := lo) (c := h.1) G2 T3 hj (by rw [cl_set_ne (by decide), hh 19 (by omega)]; exact el) hl cl_set_eq (by simp [va_up]) (by rw [old lo (by rw [hkl]; decide)]; exact hkl) kc (fun h_q T' F' N' NT' => ?_)
    refine K h.1 _ h_q lt G2 T' (F3.transG F' lt (by decide) (by decide) (by decide)) kc N' (fun c hc z => NT' c (by rw [old c (by rw [hc]; decide)]; exact hc) (z.lift old ?_)) (fun a ha hn => ?_) ⟨_, F'.cell G2 List.not_mem_nil (by decide) cl_set_eq, ?_⟩
    · have hc72 := G.1 c (by rw [hc]; decide)
      rw [cl_set_ne (by omega), hh c (T.al hc (by decide))]
    · rw [F'.cell G2 List.not_mem_nil ha rfl, cl_set_ne hn, hh a (by omega)]
    · have q1 : h_q.2.1 ≤ h2.2.1 + 0 := F'.2.2.2.1
      have q2 := cl_p37_up (c := h.1) hj hs
      omega
  · refine pm_R_aald pm_M122 (pc_q := 6) (v := .ref c) rfl es (by decide) (by decide) (by decide) (T.lt (by decide)) hj (by rw [hs]; rfl) rfl ?_
    refine pm_R_br pm_M122 (pc_q := 22) rfl rfl ?_
    refine cl_c122_t (d := d) (lo := lo) (c := c) G T hj el hl es hs hkl (hO _ _ hs) (fun h_q T' F' N' NT' => ?_)
    exact K c ck h_q (fun _ _ => rfl) G T' ((cl_F.refl (ck := ck) (A := [37]) (n := 5) (s := 24466) T.1).trans F' (by decide) (by decide) (by decide)) (hO _ _ hs) N' NT' (fun a ha _ => F'.cell G List.not_mem_nil ha rfl) ⟨_, F'.cell G List.not_mem_nil (by decide) es, by have := F'.2.2.2.1; omega⟩
end
end
