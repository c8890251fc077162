section
/-! what was told, and images of it: an object at a, its arrays at a + 1 .. a + 6; one is taken over into another -/
variable {d mid pc pc' : Nat} {ls st : List Value} {h h0 : pm_H} {Q : Option Value → pm_H → Prop} {q : pm_M} {l : List (Nat × Instr × Nat)} {L a : Nat} {s f pl : Int32} {tp : Nat → Int32} {f1 f2 f3 f4 : Nat → Option Nat} {c : Nat → Int32}
def cl_TF (a : Nat) (h0 : pm_H) (s f pl : Int32) (tp : Nat → Int32) (f1 f2 f3 f4 : Nat → Option Nat) (c : Nat → Int32) (h : pm_H) : Prop := h.1 = h0.1 ∧ h.2.1 = h0.2.1 ∧ (∀ x, (x < a ∨ a + 6 < x) → h.2.2 x = h0.2.2 x) ∧ h.2.2 a = .inr (8, [.ref (a + 1), .int s, .int f, .int pl, .ref (a + 2), .ref (a + 3), .ref (a + 4), .ref (a + 5), .ref (a + 6)]) ∧ h.2.2 (a + 1) = .inl (2, 600, .inl tp) ∧ h.2.2 (a + 2) = .inl (4, 2, .inr (.inr (.inr (.inr f1)))) ∧ h.2.2 (a + 3) = .inl (5, 3, .inr (.inr (.inr (.inr f2)))) ∧ h.2.2 (a + 4) = .inl (6, 2, .inr (.inr (.inr (.inr f3)))) ∧ h.2.2 (a + 5) = .inl (7, 2, .inr (.inr (.inr (.inr f4)))) ∧ h.2.2 (a + 6) = .inl (0, 4, .inl c)
theorem cl_TF.s1 (P : cl_TF a h0 s f pl tp f1 f2 f3 f4 c h) (tp' : Nat → Int32) : cl_TF a h0 s f pl tp' f1 f2 f3 f4 c (pm_set h (a + 1) (.inl (2, 600, .inl tp'))) := by
  obtain ⟨p1, p2, p3, p4, c1, c2, c3, c4, c5, c6⟩ := P
  refine ⟨p1, p2, fun x hx => ?_, ?_, ?_, ?_, ?_, ?_, ?_, ?_⟩
  · rw [cl_set_ne (by omega)]; exact p3 x hx
  · rw [cl_set_ne (by omega)]; exact p4
  · exact cl_set_eq
  · rw [cl_set_ne (by omega)]; exact c2
  · rw [cl_set_ne (by omega)]; exact c3
  · rw [cl_set_ne (by omega)]; exact c4
  · rw [cl_set_ne (by omega)]; exact c5
  · rw [cl_set_ne (by omega)]; exact c6
theorem cl_TF.s2 (P : cl_TF a h0 s f pl tp f1 f2 f3 f4 c h) (g : Nat → Option Nat) : cl_TF a h0 s f pl tp g f2 f3 f4 c (pm_set h (a + 2) (.inl (4, 2, .inr (.inr (.inr (.inr g)))))) := by
  obtain ⟨p1, p2, p3, p4, c1, c2, c3, c4, c5, c6⟩ := P
  refine ⟨p1, p2, fun x hx => ?_, ?_, ?_, ?_, ?_, ?_, ?_, ?_⟩
  · rw [cl_set_ne (by omega)]; exact p3 x hx
  · rw [cl_set_ne (by omega)]; exact p4
  · rw [cl_set_ne (by omega)]; exact c1
  · exact cl_set_eq
  · rw [cl_set_ne (by omega)]; exact c3
  · rw [cl_set_ne (by omega)]; exact c4
  · rw [cl_set_ne (by omega)]; exact c5
  · rw [cl_set_ne (by omega)]; exact c6
theorem cl_TF.s3 (P : cl_TF a h0 s f pl tp f1 f2 f3 f4 c h) (g : Nat → Option Nat) : cl_TF a h0 s f pl tp f1 g f3 f4 c (pm_set h (a + 3) (.inl (5, 3, .inr (.inr (.inr (.inr g)))))) := by
  obtain ⟨p1, p2, p3, p4, c1, c2, c3, c4, c5, c6⟩ := P
  refine ⟨p1, p2, fun x hx => ?_, ?_, ?_, ?_, ?_, ?_, ?_, ?_⟩
  · rw [cl_set_ne (by omega)]; exact p3 x hx
  · rw [cl_set_ne (by omega)]; exact p4
  · rw [cl_set_ne (by omega)]; exact c1
  · rw [cl_set_ne (by omega)]; exact c2
  · exact cl_set_eq
  · rw [cl_set_ne (by omega)]; exact c4
  · rw [cl_set_ne (by omega)]; exact c5
  · rw [cl_set_ne (by omega)]; exact c6
theorem cl_TF.s4 (P : cl_TF a h0 s f pl tp f1 f2 f3 f4 c h) (g : Nat → Option Nat) : cl_TF a h0 s f pl tp f1 f2 g f4 c (pm_set h (a + 4) (.inl (6, 2, .inr (.inr (.inr (.inr g)))))) := by
  obtain ⟨p1, p2, p3, p4, c1, c2, c3, c4, c5, c6⟩ := P
  refine ⟨p1, p2, fun x hx => ?_, ?_, ?_, ?_, ?_, ?_, ?_, ?_⟩
  · rw [cl_set_ne (by omega)]; exact p3 x hx
  · rw [cl_set_ne (by omega)]; exact p4
  · rw [cl_set_ne (by omega)]; exact c1
  · rw [cl_set_ne (by omega)]; exact c2
  · rw [cl_set_ne (by omega)]; exact c3
  · exact cl_set_eq
  · rw [cl_set_ne (by omega)]; exact c5
  · rw [cl_set_ne (by omega)]; exact c6
theorem cl_TF.s5 (P : cl_TF a h0 s f pl tp f1 f2 f3 f4 c h) (g : Nat → Option Nat) : cl_TF a h0 s f pl tp f1 f2 f3 g c (pm_set h (a + 5) (.inl (7, 2, .inr (.inr (.inr (.inr g)))))) := by
  obtain ⟨p1, p2, p3, p4, c1, c2, c3, c4, c5, c6⟩ := P
  refine ⟨p1, p2, fun x hx => ?_, ?_, ?_, ?_, ?_, ?_, ?_, ?_⟩
  · rw [cl_set_ne (by omega)]; exact p3 x hx
  · rw [cl_set_ne (by omega)]; exact p4
  · rw [cl_set_ne (by omega)]; exact c1
  · rw [cl_set_ne (by omega)]; exact c2
  · rw [cl_set_ne (by omega)]; exact c3
  · rw [cl_set_ne (by omega)]; exact c4
  · exact cl_set_eq
  · rw [cl_set_ne (by omega)]; exact c6
theorem cl_TF.s6 (P : cl_TF a h0 s f pl tp f1 f2 f3 f4 c h) (c' : Nat → Int32) : cl_TF a h0 s f pl tp f1 f2 f3 f4 c' (pm_set h (a + 6) (.inl (0, 4, .inl c'))) := by
  obtain ⟨p1, p2, p3, p4, c1, c2, c3, c4, c5, c6⟩ := P
  refine ⟨p1, p2, fun x hx => ?_, ?_, ?_, ?_, ?_, ?_, ?_, ?_⟩
  · rw [cl_set_ne (by omega)]; exact p3 x hx
  · rw [cl_set_ne (by omega)]; exact p4
  · rw [cl_set_ne (by omega)]; exact c1
  · rw [cl_set_ne (by omega)]; exact c2
  · rw [cl_set_ne (by omega)]; exact c3
  · rw [cl_set_ne (by omega)]; exact c4
  · rw [cl_set_ne (by omega)]; exact c5
  · exact cl_set_eq
theorem cl_TF.s0 (P : cl_TF a h0 s f pl tp f1 f2 f3 f4 c h) (s' f' pl' : Int32) : cl_TF a h0 s' f' pl' tp f1 f2 f3 f4 c (pm_set h a (.inr (8, [.ref (a + 1), .int s', .int f', .int pl', .ref (a + 2), .ref (a + 3), .ref (a + 4), .ref (a + 5), .ref (a + 6)]))) := by
  obtain ⟨p1, p2, p3, p4, c1, c2, c3, c4, c5, c6⟩ := P
  refine ⟨p1, p2, fun x hx => ?_, cl_set_eq, ?_, ?_, ?_, ?_, ?_, ?_⟩
  · rw [cl_set_ne (by omega)]; exact p3 x hx
  · rw [cl_set_ne (by omega)]; exact c1
  · rw [cl_set_ne (by omega)]; exact c2
  · rw [cl_set_ne (by omega)]; exact c3
  · rw [cl_set_ne (by omega)]; exact c4
  · rw [cl_set_ne (by omega)]; exact c5
  · rw [cl_set_ne (by omega)]; exact c6
theorem pm_R_acpB (hM : pm_Mt mid q l) {ix : Nat} (hf : pm_find l pc = some (.invokestatic ix, L)) (hn : pm_at pm_CL q.2.2.2.2 ix = none) (hx : pm_at pm_XL q.2.2.2.2 ix = some 1) {n dp sp : Int32} {a b n0 n1 N S D : Nat} {f g : Nat → Int32} (ha : h.2.2 a = .inl (2, n0, .inl f)) (hb : h.2.2 b = .inl (2, n1, .inl g)) (la : 16 ≤ a) (la' : a < h.1) (lb : 16 ≤ b) (lb' : b < h.1) (hs : sp.toNatClampNeg = S) (hd : dp.toNatClampNeg = D) (hN : n.toNatClampNeg = N) (ps : ¬ sp < 0) (pd : ¬ dp < 0) (pn : ¬ n < 0) (h0 : S + N ≤ n0) (h1 : D + N ≤ n1) (hc : (st.map fun v => v.category).sum ≤ 8) (hp : pc + 3 = pc') (kk : pm_R d mid pc' ls st (pm_set h b (.inl (2, n1, .inl (va_cpy f g S D N)))) Q) : pm_R d mid pc ls (.int n :: .int dp :: .ref b :: .int sp :: .ref a :: st) h Q := by
  subst hs hd hN
  refine pm_R_nat hM hf rfl hn (st' := st) (h' := pm_set h b (.inl (2, n1, .inl (va_cpy f g sp.toNatClampNeg dp.toNatClampNeg n.toNatClampNeg)))) ?_ hp kk
  unfold pm_hb
  dsimp only
  rw [hx]
  simp only [Option.bind, ha, hb]
  exact if_pos ⟨la, la', lb, lb', ps, pd, pn, h0, h1, hc⟩
theorem cl_R_aastO (hM : pm_Mt mid q l) {a n t ci k : Nat} {g : Nat → Option Nat} {o : Option Nat} {j : Int32} (hf : pm_find l pc = some (.aastore, L)) (hc : h.2.2 a = .inl (t, n, .inr (.inr (.inr (.inr g))))) (ht1 : 4 ≤ t) (ht2 : t < 10) (ho : ∀ b, o = some b → (∃ fs, h.2.2 b = .inr (ci, fs)) ∧ 16 ≤ b ∧ b < h.1) (hoy : pm_oty ci = some t) (h1 : 16 ≤ a) (h2 : a < h.1) (hj : pm_in j n = true) (hk : j.toNatClampNeg = k) (hp : pc + 1 = pc') (kk : pm_R d mid pc' ls st (pm_set h a (.inl (t, n, .inr (.inr (.inr (.inr (va_up g k o))))))) Q) : pm_R d mid pc ls (va_rf o :: .int j :: .ref a :: st) h Q := by
  subst hk
  cases o with
  | none => exact pm_R_aastN hM hf hc ht1 ht2 h1 h2 hj hp kk
  | some b =>
    obtain ⟨⟨fs, hb⟩, b1, b2⟩ := ho b rfl
    exact pm_R_aast hM hf hc hb hoy h1 h2 b1 b2 hj hp kk
/-- takeTexts -/
theorem cl_c59 {b : Nat} {g1 g2 g3 g4 : Nat → Option Nat} {xs : List Value} (ha : 16 ≤ a) (ha6 : a + 6 < h0.1) (hb : 16 ≤ b) (hb6 : b + 6 < h0.1) (hd : a + 6 < b ∨ b + 6 < a) (P : cl_TF a h0 s f pl tp f1 f2 f3 f4 c h) {v1 v2 v3 : Int32} (eb : h0.2.2 b = .inr (8, [.ref (b + 1), .int v1, .int v2, .int v3, .ref (b + 2), .ref (b + 3), .ref (b + 4), .ref (b + 5), .ref (b + 6)])) (e1 : h0.2.2 (b + 2) = .inl (4, 2, .inr (.inr (.inr (.inr g1))))) (e2 : h0.2.2 (b + 3) = .inl (5, 3, .inr (.inr (.inr (.inr g2))))) (e3 : h0.2.2 (b + 4) = .inl (6, 2, .inr (.inr (.inr (.inr g3))))) (e4 : h0.2.2 (b + 5) = .inl (7, 2, .inr (.inr (.inr (.inr g4))))) (w1 : ∀ i x, g1 i = some x → (∃ fs, h0.2.2 x = .inr (4, fs)) ∧ 16 ≤ x ∧ x < h0.1 ∧ (x < a ∨ a + 6 < x)) (w2 : ∀ i x, g2 i = some x → (∃ fs, h0.2.2 x = .inr (5, fs)) ∧ 16 ≤ x ∧ x < h0.1 ∧ (x < a ∨ a + 6 < x)) (w3 : ∀ i x, g3 i = some x → (∃ fs, h0.2.2 x = .inr (1, fs)) ∧ 16 ≤ x ∧ x < h0.1 ∧ (x < a ∨ a + 6 < x)) (w4 : ∀ i x, g4 i = some x → (∃ fs, h0.2.2 x = .inr (0, fs)) ∧ 16 ≤ x ∧ x < h0.1 ∧ (x < a ∨ a + 6 < x)) (K : ∀ h', cl_TF a h0 s f pl tp (va_up (va_up f1 0 (g1 0)) 1 (g1 1)) (va_up (va_up (va_up f2 0 (g2 0)) 1 (g2 1)) 2 (g2 2)) (va_up (va_up f3 0 (g3 0)) 1 (g3 1)) (va_up (va_up f4 0 (g4 0)) 1 (g4 1)) c h' → Q none h') : pm_R (d + 0) 59 0 [.ref a, .ref b, pm_no] [] h Q := by
  obtain ⟨p1, p2, p3, p4, _⟩ := id P
  refine pm_R_op pm_M59 (pc' := 1) (st' := [.int 0]) rfl rfl rfl ?_
  refine pm_R_lo pm_M59 (pc' := 2) (ls' := [.ref a, .ref b, .int 0]) (st' := []) rfl rfl rfl ?_
  refine pm_R_lo pm_M59 (pc' := 3) rfl rfl rfl ?_
  refine pm_R_lo pm_M59 (pc' := 4) rfl rfl rfl ?_
  refine pm_R_get pm_M59 (pc' := 7) (v := .ref (a + 2)) rfl rfl P.2.2.2.1 ha (by rw [P.1]; omega) rfl rfl ?_
  refine pm_R_alen pm_M59 (pc' := 8) (v := 2) rfl P.2.2.2.2.2.1 (by omega) (by rw [P.1]; omega) (by decide) rfl rfl ?_
  refine pm_R_br pm_M59 (pc' := 11) (st' := []) rfl rfl ?_
  refine pm_R_lo pm_M59 (pc' := 12) rfl rfl rfl ?_
  refine pm_R_get pm_M59 (pc' := 15) (v := .ref (a + 2)) rfl rfl P.2.2.2.1 ha (by rw [P.1]; omega) rfl rfl ?_
  refine pm_R_lo pm_M59 (pc' := 16) rfl rfl rfl ?_
  refine pm_R_lo pm_M59 (pc' := 17) rfl rfl rfl ?_
  refine pm_R_get pm_M59 (pc' := 20) (v := .ref (b + 2)) rfl rfl ((P.2.2.1 b (by omega)).trans eb) hb (by rw [P.1]; omega) rfl rfl ?_
  refine pm_R_lo pm_M59 (pc' := 21) rfl rfl rfl ?_
  refine pm_R_aald pm_M59 (pc' := 22) (v := va_rf (g1 0)) rfl ((P.2.2.1 (b + 2) (by omega)).trans e1) (by decide) (by decide) (by omega) (by rw [P.1]; omega) rfl rfl rfl ?_
  refine cl_R_aastO pm_M59 (ci := 4) (k := 0) (pc' := 23) rfl P.2.2.2.2.2.1 (by decide) (by decide) (fun x hx => by obtain ⟨⟨fs, q1⟩, q2, q3, q4⟩ := w1 0 x hx; exact ⟨⟨fs, (P.2.2.1 x q4).trans q1⟩, q2, by rw [P.1]; exact q3⟩) rfl (by omega) (by rw [P.1]; omega) rfl rfl rfl ?_
  have P1 := P.s2 (va_up f1 0 (g1 0))
  obtain ⟨h1, q1⟩ : ∃ z, pm_set h (a + 2) (.inl (4, 2, .inr (.inr (.inr (.inr (va_up f1 0 (g1 0))))))) = z := ⟨_, rfl⟩
  rw [q1] at P1 ⊢
  refine pm_R_lo pm_M59 (pc' := 26) (ls' := [.ref a, .ref b, .int 1]) (st' := []) rfl rfl rfl ?_
  refine pm_R_br pm_M59 (pc' := 2) (st' := []) rfl rfl ?_
  refine pm_R_lo pm_M59 (pc' := 3) rfl rfl rfl ?_
  refine pm_R_lo pm_M59 (pc' := 4) rfl rfl rfl ?_
  refine pm_R_get pm_M59 (pc' := 7) (v := .ref (a + 2)) rfl rfl P1.2.2.2.1 ha (by rw [P1.1]; omega) rfl rfl ?_
  refine pm_R_alen pm_M59 (pc' := 8) (v := 2) rfl P1.2.2.2.2.2.1 (by omega) (by rw [P1.1]; omega) (by decide) rfl rfl ?_
  refine pm_R_br pm_M59 (pc' := 11) (st' := []) rfl rfl ?_
  refine pm_R_lo pm_M59 (pc' := 12) rfl rfl rfl ?_
  refine pm_R_get pm_M59 (pc' := 15) (v := .ref (a + 2)) rfl rfl P1.2.2.2.1 ha (by rw [P1.1]; omega) rfl rfl ?_
  refine pm_R_lo pm_M59 (pc' := 16) rfl rfl rfl ?_
  refine pm_R_lo pm_M59 (pc' := 17) rfl rfl rfl ?_
  refine pm_R_get pm_M59 (pc' := 20) (v := .ref (b + 2)) rfl rfl ((P1.2.2.1 b (by omega)).trans eb) hb (by rw [P1.1]; omega) rfl rfl ?_
  refine pm_R_lo pm_M59 (pc' := 21) rfl rfl rfl ?_
  refine pm_R_aald pm_M59 (pc' := 22) (v := va_rf (g1 1)) rfl ((P1.2.2.1 (b + 2) (by omega)).trans e1) (by decide) (by decide) (by omega) (by rw [P1.1]; omega) rfl rfl rfl ?_
  refine cl_R_aastO pm_M59 (ci := 4) (k := 1) (pc' := 23) rfl P1.2.2.2.2.2.1 (by decide) (by decide) (fun x hx => by obtain ⟨⟨fs, q1⟩, q2, q3, q4⟩ := w1 1 x hx; exact ⟨⟨fs, (P1.2.2.1 x q4).trans q1⟩, q2, by rw [P1.1]; exact q3⟩) rfl (by omega) (by rw [P1.1]; omega) rfl rfl rfl ?_
  have P2 := P1.s2 (va_up (va_up f1 0 (g1 0)) 1 (g1 1))
  obtain ⟨h2, q2⟩ : ∃ z, pm_set h1 (a + 2) (.inl (4, 2, .inr (.inr (.inr (.inr (va_up (va_up f1 0 (g1 0)) 1 (g1 1))))))) = z := ⟨_, rfl⟩
  rw [q2] at P2 ⊢
  refine pm_R_lo pm_M59 (pc' := 26) (ls' := [.ref a, .ref b, .int 2]) (st' := []) rfl rfl rfl ?_
  refine pm_R_br pm_M59 (pc' := 2) (st' := []) rfl rfl ?_
  refine pm_R_lo pm_M59 (pc' := 3) rfl rfl rfl ?_
  refine pm_R_lo pm_M59 (pc' := 4) rfl rfl rfl ?_
  refine pm_R_get pm_M59 (pc' := 7) (v := .ref (a + 2)) rfl rfl P2.2.2.2.1 ha (by rw [P2.1]; omega) rfl rfl ?_
  refine pm_R_alen pm_M59 (pc' := 8) (v := 2) rfl P2.2.2.2.2.2.1 (by omega) (by rw [P2.1]; omega) (by decide) rfl rfl ?_
  refine pm_R_br pm_M59 (pc' := 29) (st' := []) rfl rfl ?_
  refine pm_R_op pm_M59 (pc' := 30) (st' := [.int 0]) rfl rfl rfl ?_
  refine pm_R_lo pm_M59 (pc' := 31) (ls' := [.ref a, .ref b, .int 0]) (st' := []) rfl rfl rfl ?_
  refine pm_R_lo pm_M59 (pc' := 32) rfl rfl rfl ?_
  refine pm_R_lo pm_M59 (pc' := 33) rfl rfl rfl ?_
  refine pm_R_get pm_M59 (pc' := 36) (v := .ref (a + 3)) rfl rfl P2.2.2.2.1 ha (by rw [P2.1]; omega) rfl rfl ?_
  refine pm_R_alen pm_M59 (pc' := 37) (v := 3) rfl P2.2.2.2.2.2.2.1 (by omega) (by rw [P2.1]; omega) (by decide) rfl rfl ?_
  refine pm_R_br pm_M59 (pc' := 40) (st' := []) rfl rfl ?_
  refine pm_R_lo pm_M59 (pc' := 41) rfl rfl rfl ?_
  refine pm_R_get pm_M59 (pc' := 44) (v := .ref (a + 3)) rfl rfl P2.2.2.2.1 ha (by rw [P2.1]; omega) rfl rfl ?_
  refine pm_R_lo pm_M59 (pc' := 45) rfl rfl rfl ?_
  refine pm_R_lo pm_M59 (pc' := 46) rfl rfl rfl ?_
  refine pm_R_get pm_M59 (pc' := 49) (v := .ref (b + 3)) rfl rfl ((P2.2.2.1 b (by omega)).trans eb) hb (by rw [P2.1]; omega) rfl rfl ?_
  refine pm_R_lo pm_M59 (pc' := 50) rfl rfl rfl ?_
  refine pm_R_aald pm_M59 (pc' := 51) (v := va_rf (g2 0)) rfl ((P2.2.2.1 (b + 3) (by omega)).trans e2) (by decide) (by decide) (by omega) (by rw [P2.1]; omega) rfl rfl rfl ?_
  refine cl_R_aastO pm_M59 (ci := 5) (k := 0) (pc' := 52) rfl P2.2.2.2.2.2.2.1 (by decide) (by decide) (fun x hx => by obtain ⟨⟨fs, q1⟩, q2, q3, q4⟩ := w2 0 x hx; exact ⟨⟨fs, (P2.2.2.1 x q4).trans q1⟩, q2, by rw [P2.1]; exact q3⟩) rfl (by omega) (by rw [P2.1]; omega) rfl rfl rfl ?_
  have P3 := P2.s3 (va_up f2 0 (g2 0))
  obtain ⟨h3, q3⟩ : ∃ z, pm_set h2 (a + 3) (.inl (5, 3, .inr (.inr (.inr (.inr (va_up f2 0 (g2 0))))))) = z := ⟨_, rfl⟩
  rw [q3] at P3 ⊢
  refine pm_R_lo pm_M59 (pc' := 55) (ls' := [.ref a, .ref b, .int 1]) (st' := []) rfl rfl rfl ?_
  refine pm_R_br pm_M59 (pc' := 31) (st' := []) rfl rfl ?_
  refine pm_R_lo pm_M59 (pc' := 32) rfl rfl rfl ?_
  refine pm_R_lo pm_M59 (pc' := 33) rfl rfl rfl ?_
  refine pm_R_get pm_M59 (pc' := 36) (v := .ref (a + 3)) rfl rfl P3.2.2.2.1 ha (by rw [P3.1]; omega) rfl rfl ?_
  refine pm_R_alen pm_M59 (pc' := 37) (v := 3) rfl P3.2.2.2.2.2.2.1 (by omega) (by rw [P3.1]; omega) (by decide) rfl rfl ?_
  refine pm_R_br pm_M59 (pc' := 40) (st' := []) rfl rfl ?_
  refine pm_R_lo pm_M59 (pc' := 41) rfl rfl rfl ?_
  refine pm_R_get pm_M59 (pc' := 44) (v := .ref (a + 3)) rfl rfl P3.2.2.2.1 ha (by rw [P3.1]; omega) rfl rfl ?_
  refine pm_R_lo pm_M59 (pc' := 45) rfl rfl rfl ?_
  refine pm_R_lo pm_M59 (pc' := 46) rfl rfl rfl ?_
  refine pm_R_get pm_M59 (pc' := 49) (v := .ref (b + 3)) rfl rfl ((P3.2.2.1 b (by omega)).trans eb) hb (by rw [P3.1]; omega) rfl rfl ?_
  refine pm_R_lo pm_M59 (pc' := 50) rfl rfl rfl ?_
  refine pm_R_aald pm_M59 (pc' := 51) (v := va_rf (g2 1)) rfl ((P3.2.2.1 (b + 3) (by omega)).trans e2) (by decide) (by decide) (by omega) (by rw [P3.1]; omega) rfl rfl rfl ?_
  refine cl_R_aastO pm_M59 (ci := 5) (k := 1) (pc' := 52) rfl P3.2.2.2.2.2.2.1 (by decide) (by decide) (fun x hx => by obtain ⟨⟨fs, q1⟩, q2, q3, q4⟩ := w2 1 x hx; exact ⟨⟨fs, (P3.2.2.1 x q4).trans q1⟩, q2, by rw [P3.1]; exact q3⟩) rfl (by omega) (by rw [P3.1]; omega) rfl rfl rfl ?_
  have P4 := P3.s3 (va_up (va_up f2 0 (g2 0)) 1 (g2 1))
  obtain ⟨h4, q4⟩ : ∃ z, pm_set h3 (a + 3) (.inl (5, 3, .inr (.inr (.inr (.inr (va_up (va_up f2 0 (g2 0)) 1 (g2 1))))))) = z := ⟨_, rfl⟩
  rw [q4] at P4 ⊢
  refine pm_R_lo pm_M59 (pc' := 55) (ls' := [.ref a, .ref b, .int 2]) (st' := []) rfl rfl rfl ?_
  refine pm_R_br pm_M59 (pc' := 31) (st' := []) rfl rfl ?_
  refine pm_R_lo pm_M59 (pc' := 32) rfl rfl rfl ?_
  refine pm_R_lo pm_M59 (pc' := 33) rfl rfl rfl ?_
  refine pm_R_get pm_M59 (pc' := 36) (v := .ref (a + 3)) rfl rfl P4.2.2.2.1 ha (by rw [P4.1]; omega) rfl rfl ?_
  refine pm_R_alen pm_M59 (pc' := 37) (v := 3) rfl P4.2.2.2.2.2.2.1 (by omega) (by rw [P4.1]; omega) (by decide) rfl rfl ?_
  refine pm_R_br pm_M59 (pc' := 40) (st' := []) rfl rfl ?_
  refine pm_R_lo pm_M59 (pc' := 41) rfl rfl rfl ?_
  refine pm_R_get pm_M59 (pc' := 44) (v := .ref (a + 3)) rfl rfl P4.2.2.2.1 ha (by rw [P4.1]; omega) rfl rfl ?_
  refine pm_R_lo pm_M59 (pc' := 45) rfl rfl rfl ?_
  refine pm_R_lo pm_M59 (pc' := 46) rfl rfl rfl ?_
  refine pm_R_get pm_M59 (pc' := 49) (v := .ref (b + 3)) rfl rfl ((P4.2.2.1 b (by omega)).trans eb) hb (by rw [P4.1]; omega) rfl rfl ?_
  refine pm_R_lo pm_M59 (pc' := 50) rfl rfl rfl ?_
  refine pm_R_aald pm_M59 (pc' := 51) (v := va_rf (g2 2)) rfl ((P4.2.2.1 (b + 3) (by omega)).trans e2) (by decide) (by decide) (by omega) (by rw [P4.1]; omega) rfl rfl rfl ?_
  refine cl_R_aastO pm_M59 (ci := 5) (k := 2) (pc' := 52) rfl P4.2.2.2.2.2.2.1 (by decide) (by decide) (fun x hx => by obtain ⟨⟨fs, q1⟩, q2, q3, q4⟩ := w2 2 x hx; exact ⟨⟨fs, (P4.2.2.1 x q4).trans q1⟩, q2, by rw [P4.1]; exact q3⟩) rfl (by omega) (by rw [P4.1]; omega) rfl rfl rfl ?_
  have P5 := P4.s3 (va_up (va_up (va_up f2 0 (g2 0)) 1 (g2 1)) 2 (g2 2))
  obtain ⟨h5, q5⟩ : ∃ z, pm_set h4 (a + 3) (.inl (5, 3, .inr (.inr (.inr (.inr (va_up (va_up (va_up f2 0 (g2 0)) 1 (g2 1)) 2 (g2 2))))))) = z := ⟨_, rfl⟩
  rw [q5] at P5 ⊢
  refine pm_R_lo pm_M59 (pc' := 55) (ls' := [.ref a, .ref b, .int 3]) (st' := []) rfl rfl rfl ?_
  refine pm_R_br pm_M59 (pc' := 31) (st' := []) rfl rfl ?_
  refine pm_R_lo pm_M59 (pc' := 32) rfl rfl rfl ?_
  refine pm_R_lo pm_M59 (pc' := 33) rfl rfl rfl ?_
  refine pm_R_get pm_M59 (pc' := 36) (v := .ref (a + 3)) rfl rfl P5.2.2.2.1 ha (by rw [P5.1]; omega) rfl rfl ?_
  refine pm_R_alen pm_M59 (pc' := 37) (v := 3) rfl P5.2.2.2.2.2.2.1 (by omega) (by rw [P5.1]; omega) (by decide) rfl rfl ?_
  refine pm_R_br pm_M59 (pc' := 58) (st' := []) rfl rfl ?_
  refine pm_R_op pm_M59 (pc' := 59) (st' := [.int 0]) rfl rfl rfl ?_
  refine pm_R_lo pm_M59 (pc' := 60) (ls' := [.ref a, .ref b, .int 0]) (st' := []) rfl rfl rfl ?_
  refine pm_R_lo pm_M59 (pc' := 61) rfl rfl rfl ?_
  refine pm_R_lo pm_M59 (pc' := 62) rfl rfl rfl ?_
  refine pm_R_get pm_M59 (pc' := 65) (v := .ref (a + 4)) rfl rfl P5.2.2.2.1 ha (by rw [P5.1]; omega) rfl rfl ?_
  refine pm_R_alen pm_M59 (pc' := 66) (v := 2) rfl P5.2.2.2.2.2.2.2.1 (by omega) (by rw [P5.1]; omega) (by decide) rfl rfl ?_
  refine pm_R_br pm_M59 (pc' := 69) (st' := []) rfl rfl ?_
  refine pm_R_lo pm_M59 (pc' := 70) rfl rfl rfl ?_
  refine pm_R_get pm_M59 (pc' := 73) (v := .ref (a + 4)) rfl rfl P5.2.2.2.1 ha (by rw [P5.1]; omega) rfl rfl ?_
  refine pm_R_lo pm_M59 (pc' := 74) rfl rfl rfl ?_
  refine pm_R_lo pm_M59 (pc' := 75) rfl rfl rfl ?_
  refine pm_R_get pm_M59 (pc' := 78) (v := .ref (b + 4)) rfl rfl ((P5.2.2.1 b (by omega)).trans eb) hb (by rw [P5.1]; omega) rfl rfl ?_
  refine pm_R_lo pm_M59 (pc' := 79) rfl rfl rfl ?_
  refine pm_R_aald pm_M59 (pc' := 80) (v := va_rf (g3 0)) rfl ((P5.2.2.1 (b + 4) (by omega)).trans e3) (by decide) (by decide) (by omega) (by rw [P5.1]; omega) rfl rfl rfl ?_
  refine cl_R_aastO pm_M59 (ci := 1) (k := 0) (pc' := 81) rfl P5.2.2.2.2.2.2.2.1 (by decide) (by decide) (fun x hx => by obtain ⟨⟨fs, q1⟩, q2, q3, q4⟩ := w3 0 x hx; exact ⟨⟨fs, (P5.2.2.1 x q4).trans q1⟩, q2, by rw [P5.1]; exact q3⟩) rfl (by omega) (by rw [P5.1]; omega) rfl rfl rfl ?_
  have P6 := P5.s4 (va_up f3 0 (g3 0))
  obtain ⟨h6, q6⟩ : ∃ z, pm_set h5 (a + 4) (.inl (6, 2, .inr (.inr (.inr (.inr (va_up f3 0 (g3 0))))))) = z := ⟨_, rfl⟩
  rw [q6] at P6 ⊢
  refine pm_R_lo pm_M59 (pc' := 84) (ls' := [.ref a, .ref b, .int 1]) (st' := []) rfl rfl rfl ?_
  refine pm_R_br pm_M59 (pc' := 60) (st' := []) rfl rfl ?_
  refine pm_R_lo pm_M59 (pc' := 61) rfl rfl rfl ?_
  refine pm_R_lo pm_M59 (pc' := 62) rfl rfl rfl ?_
  refine pm_R_get pm_M59 (pc' := 65) (v := .ref (a + 4)) rfl rfl P6.2.2.2.1 ha (by rw [P6.1]; omega) rfl rfl ?_
  refine pm_R_alen pm_M59 (pc' := 66) (v := 2) rfl P6.2.2.2.2.2.2.2.1 (by omega) (by rw [P6.1]; omega) (by decide) rfl rfl ?_
  refine pm_R_br pm_M59 (pc' := 69) (st' := []) rfl rfl ?_
  refine pm_R_lo pm_M59 (pc' := 70) rfl rfl rfl ?_
  refine pm_R_get pm_M59 (pc' := 73) (v := .ref (a + 4)) rfl rfl P6.2.2.2.1 ha (by rw [P6.1]; omega) rfl rfl ?_
  refine pm_R_lo pm_M59 (pc' := 74) rfl rfl rfl ?_
  refine pm_R_lo pm_M59 (pc' := 75) rfl rfl rfl ?_
  refine pm_R_get pm_M59 (pc' := 78) (v := .ref (b + 4)) rfl rfl ((P6.2.2.1 b (by omega)).trans eb) hb (by rw [P6.1]; omega) rfl rfl ?_
  refine pm_R_lo pm_M59 (pc' := 79) rfl rfl rfl ?_
  refine pm_R_aald pm_M59 (pc' := 80) (v := va_rf (g3 1)) rfl ((P6.2.2.1 (b + 4) (by omega)).trans e3) (by decide) (by decide) (by omega) (by rw [P6.1]; omega) rfl rfl rfl ?_
  refine cl_R_aastO pm_M59 (ci := 1) (k := 1) (pc' := 81) rfl P6.2.2.2.2.2.2.2.1 (by decide) (by decide) (fun x hx => by obtain ⟨⟨fs, q1⟩, q2, q3, q4⟩ := w3 1 x hx; exact ⟨⟨fs, (P6.2.2.1 x q4).trans q1⟩, q2, by rw [P6.1]; exact q3⟩) rfl (by omega) (by rw [P6.1]; omega) rfl rfl rfl ?_
  have P7 := P6.s4 (va_up (va_up f3 0 (g3 0)) 1 (g3 1))
  obtain ⟨h7, q7⟩ : ∃ z, pm_set h6 (a + 4) (.inl (6, 2, .inr (.inr (.inr (.inr (va_up (va_up f3 0 (g3 0)) 1 (g3 1))))))) = z := ⟨_, rfl⟩
  rw [q7] at P7 ⊢
  refine pm_R_lo pm_M59 (pc' := 84) (ls' := [.ref a, .ref b, .int 2]) (st' := []) rfl rfl rfl ?_
  refine pm_R_br pm_M59 (pc' := 60) (st' := []) rfl rfl ?_
  refine pm_R_lo pm_M59 (pc' := 61) rfl rfl rfl ?_
  refine pm_R_lo pm_M59 (pc' := 62) rfl rfl rfl ?_
  refine pm_R_get pm_M59 (pc' := 65) (v := .ref (a + 4)) rfl rfl P7.2.2.2.1 ha (by rw [P7.1]; omega) rfl rfl ?_
  refine pm_R_alen pm_M59 (pc' := 66) (v := 2) rfl P7.2.2.2.2.2.2.2.1 (by omega) (by rw [P7.1]; omega) (by decide) rfl rfl ?_
  refine pm_R_br pm_M59 (pc' := 87) (st' := []) rfl rfl ?_
  refine pm_R_op pm_M59 (pc' := 88) (st' := [.int 0]) rfl rfl rfl ?_
  refine pm_R_lo pm_M59 (pc' := 89) (ls' := [.ref a, .ref b, .int 0]) (st' := []) rfl rfl rfl ?_
  refine pm_R_lo pm_M59 (pc' := 90) rfl rfl rfl ?_
  refine pm_R_lo pm_M59 (pc' := 91) rfl rfl rfl ?_
  refine pm_R_get pm_M59 (pc' := 94) (v := .ref (a + 5)) rfl rfl P7.2.2.2.1 ha (by rw [P7.1]; omega) rfl rfl ?_
  refine pm_R_alen pm_M59 (pc' := 95) (v := 2) rfl P7.2.2.2.2.2.2.2.2.1 (by omega) (by rw [P7.1]; omega) (by decide) rfl rfl ?_
  refine pm_R_br pm_M59 (pc' := 98) (st' := []) rfl rfl ?_
  refine pm_R_lo pm_M59 (pc' := 99) rfl rfl rfl ?_
  refine pm_R_get pm_M59 (pc' := 102) (v := .ref (a + 5)) rfl rfl P7.2.2.2.1 ha (by rw [P7.1]; omega) rfl rfl ?_
  refine pm_R_lo pm_M59 (pc' := 103) rfl rfl rfl ?_
  refine pm_R_lo pm_M59 (pc' := 104) rfl rfl rfl ?_
  refine pm_R_get pm_M59 (pc' := 107) (v := .ref (b + 5)) rfl rfl ((P7.2.2.1 b (by omega)).trans eb) hb (by rw [P7.1]; omega) rfl rfl ?_
  refine pm_R_lo pm_M59 (pc' := 108) rfl rfl rfl ?_
  refine pm_R_aald pm_M59 (pc' := 109) (v := va_rf (g4 0)) rfl ((P7.2.2.1 (b + 5) (by omega)).trans e4) (by decide) (by decide) (by omega) (by rw [P7.1]; omega) rfl rfl rfl ?_
  refine cl_R_aastO pm_M59 (ci := 0) (k := 0) (pc' := 110) rfl P7.2.2.2.2.2.2.2.2.1 (by decide) (by decide) (fun x hx => by obtain ⟨⟨fs, q1⟩, q2, q3, q4⟩ := w4 0 x hx; exact ⟨⟨fs, (P7.2.2.1 x q4).trans q1⟩, q2, by rw [P7.1]; exact q3⟩) rfl (by omega) (by rw [P7.1]; omega) rfl rfl rfl ?_
  have P8 := P7.s5 (va_up f4 0 (g4 0))
  obtain ⟨h8, q8⟩ : ∃ z, pm_set h7 (a + 5) (.inl (7, 2, .inr (.inr (.inr (.inr (va_up f4 0 (g4 0))))))) = z := ⟨_, rfl⟩
  rw [q8] at P8 ⊢
  refine pm_R_lo pm_M59 (pc' := 113) (ls' := [.ref a, .ref b, .int 1]) (st' := []) rfl rfl rfl ?_
  refine pm_R_br pm_M59 (pc' := 89) (st' := []) rfl rfl ?_
  refine pm_R_lo pm_M59 (pc' := 90) rfl rfl rfl ?_
  refine pm_R_lo pm_M59 (pc' := 91) rfl rfl rfl ?_
  refine pm_R_get pm_M59 (pc' := 94) (v := .ref (a + 5)) rfl rfl P8.2.2.2.1 ha (by rw [P8.1]; omega) rfl rfl ?_
  refine pm_R_alen pm_M59 (pc' := 95) (v := 2) rfl P8.2.2.2.2.2.2.2.2.1 (by omega) (by rw [P8.1]; omega) (by decide) rfl rfl ?_
  refine pm_R_br pm_M59 (pc' := 98) (st' := []) rfl rfl ?_
  refine pm_R_lo pm_M59 (pc' := 99) rfl rfl rfl ?_
  refine pm_R_get pm_M59 (pc' := 102) (v := .ref (a + 5)) rfl rfl P8.2.2.2.1 ha (by rw [P8.1]; omega) rfl rfl ?_
  refine pm_R_lo pm_M59 (pc' := 103) rfl rfl rfl ?_
  refine pm_R_lo pm_M59 (pc' := 104) rfl rfl rfl ?_
  refine pm_R_get pm_M59 (pc' := 107) (v := .ref (b + 5)) rfl rfl ((P8.2.2.1 b (by omega)).trans eb) hb (by rw [P8.1]; omega) rfl rfl ?_
  refine pm_R_lo pm_M59 (pc' := 108) rfl rfl rfl ?_
  refine pm_R_aald pm_M59 (pc' := 109) (v := va_rf (g4 1)) rfl ((P8.2.2.1 (b + 5) (by omega)).trans e4) (by decide) (by decide) (by omega) (by rw [P8.1]; omega) rfl rfl rfl ?_
  refine cl_R_aastO pm_M59 (ci := 0) (k := 1) (pc' := 110) rfl P8.2.2.2.2.2.2.2.2.1 (by decide) (by decide) (fun x hx => by obtain ⟨⟨fs, q1⟩, q2, q3, q4⟩ := w4 1 x hx; exact ⟨⟨fs, (P8.2.2.1 x q4).trans q1⟩, q2, by rw [P8.1]; exact q3⟩) rfl (by omega) (by rw [P8.1]; omega) rfl rfl rfl ?_
  have P9 := P8.s5 (va_up (va_up f4 0 (g4 0)) 1 (g4 1))
  obtain ⟨h9, q9⟩ : ∃ z, pm_set h8 (a + 5) (.inl (7, 2, .inr (.inr (.inr (.inr (va_up (va_up f4 0 (g4 0)) 1 (g4 1))))))) = z := ⟨_, rfl⟩
  rw [q9] at P9 ⊢
  refine pm_R_lo pm_M59 (pc' := 113) (ls' := [.ref a, .ref b, .int 2]) (st' := []) rfl rfl rfl ?_
  refine pm_R_br pm_M59 (pc' := 89) (st' := []) rfl rfl ?_
  refine pm_R_lo pm_M59 (pc' := 90) rfl rfl rfl ?_
  refine pm_R_lo pm_M59 (pc' := 91) rfl rfl rfl ?_
  refine pm_R_get pm_M59 (pc' := 94) (v := .ref (a + 5)) rfl rfl P9.2.2.2.1 ha (by rw [P9.1]; omega) rfl rfl ?_
  refine pm_R_alen pm_M59 (pc' := 95) (v := 2) rfl P9.2.2.2.2.2.2.2.2.1 (by omega) (by rw [P9.1]; omega) (by decide) rfl rfl ?_
  refine pm_R_br pm_M59 (pc' := 116) (st' := []) rfl rfl ?_
  exact pm_R_ret pm_M59 (r := none) rfl rfl (K _ P9)
/-- takeFrom -/
theorem cl_c58 {b : Nat} {tp2 c2 : Nat → Int32} {g1 g2 g3 g4 : Nat → Option Nat} (ha : 16 ≤ a) (ha6 : a + 6 < h.1) (hb : 16 ≤ b) (hb6 : b + 6 < h.1) (hd : a + 6 < b ∨ b + 6 < a) (P : cl_TF a h s f pl tp f1 f2 f3 f4 c h) {v1 v2 v3 : Int32} (eb : h.2.2 b = .inr (8, [.ref (b + 1), .int v1, .int v2, .int v3, .ref (b + 2), .ref (b + 3), .ref (b + 4), .ref (b + 5), .ref (b + 6)])) (e0 : h.2.2 (b + 1) = .inl (2, 600, .inl tp2)) (e1 : h.2.2 (b + 2) = .inl (4, 2, .inr (.inr (.inr (.inr g1))))) (e2 : h.2.2 (b + 3) = .inl (5, 3, .inr (.inr (.inr (.inr g2))))) (e3 : h.2.2 (b + 4) = .inl (6, 2, .inr (.inr (.inr (.inr g3))))) (e4 : h.2.2 (b + 5) = .inl (7, 2, .inr (.inr (.inr (.inr g4))))) (e5 : h.2.2 (b + 6) = .inl (0, 4, .inl c2)) (w1 : ∀ i x, g1 i = some x → (∃ fs, h.2.2 x = .inr (4, fs)) ∧ 16 ≤ x ∧ x < h.1 ∧ (x < a ∨ a + 6 < x)) (w2 : ∀ i x, g2 i = some x → (∃ fs, h.2.2 x = .inr (5, fs)) ∧ 16 ≤ x ∧ x < h.1 ∧ (x < a ∨ a + 6 < x)) (w3 : ∀ i x, g3 i = some x → (∃ fs, h.2.2 x = .inr (1, fs)) ∧ 16 ≤ x ∧ x < h.1 ∧ (x < a ∨ a + 6 < x)) (w4 : ∀ i x, g4 i = some x → (∃ fs, h.2.2 x = .inr (0, fs)) ∧ 16 ≤ x ∧ x < h.1 ∧ (x < a ∨ a + 6 < x)) (K : ∀ h', cl_TF a h v1 v2 v3 (va_cpy tp2 tp 0 0 600) (va_up (va_up f1 0 (g1 0)) 1 (g1 1)) (va_up (va_up (va_up f2 0 (g2 0)) 1 (g2 1)) 2 (g2 2)) (va_up (va_up f3 0 (g3 0)) 1 (g3 1)) (va_up (va_up f4 0 (g4 0)) 1 (g4 1)) (va_cpy c2 c 0 0 4) h' → Q none h') : pm_R (d + 1) 58 0 [.ref a, .ref b] [] h Q := by
  refine pm_R_lo pm_M58 (pc' := 1) rfl rfl rfl ?_
  refine pm_R_get pm_M58 (pc' := 4) (v := .ref (b + 1)) rfl rfl ((P.2.2.1 b (by omega)).trans eb) hb (by rw [P.1]; omega) rfl rfl ?_
  refine pm_R_op pm_M58 (pc' := 5) (st' := [.int 0, .ref (b + 1)]) rfl rfl rfl ?_
  refine pm_R_lo pm_M58 (pc' := 6) rfl rfl rfl ?_
  refine pm_R_get pm_M58 (pc' := 9) (v := .ref (a + 1)) rfl rfl P.2.2.2.1 ha (by rw [P.1]; omega) rfl rfl ?_
  refine pm_R_op pm_M58 (pc' := 10) (st' := [.int 0, .ref (a + 1), .int 0, .ref (b + 1)]) rfl rfl rfl ?_
  refine pm_R_op pm_M58 (pc' := 13) (st' := [.int 600, .int 0, .ref (a + 1), .int 0, .ref (b + 1)]) rfl rfl rfl ?_
  refine pm_R_acpB pm_M58 (pc' := 16) rfl rfl rfl ((P.2.2.1 (b + 1) (by omega)).trans e0) P.2.2.2.2.1 (by omega) (by rw [P.1]; omega) (by omega) (by rw [P.1]; omega) (S := 0) (D := 0) (N := 600) rfl rfl rfl (by decide) (by decide) (by decide) (by decide) (by decide) (Nat.le_of_ble_eq_true rfl) rfl ?_
  have P1 := P.s1 (va_cpy tp2 tp 0 0 600)
  obtain ⟨h1, q1⟩ : ∃ z, pm_set h (a + 1) (.inl (2, 600, .inl (va_cpy tp2 tp 0 0 600))) = z := ⟨_, rfl⟩
  rw [q1] at P1 ⊢
  refine pm_R_lo pm_M58 (pc' := 17) rfl rfl rfl ?_
  refine pm_R_lo pm_M58 (pc' := 18) rfl rfl rfl ?_
  refine pm_R_get pm_M58 (pc' := 21) (v := .int v1) rfl rfl ((P1.2.2.1 b (by omega)).trans eb) hb (by rw [P1.1]; omega) rfl rfl ?_
  refine pm_R_put pm_M58 (pc' := 24) (fs' := [.ref (a + 1), .int v1, .int f, .int pl, .ref (a + 2), .ref (a + 3), .ref (a + 4), .ref (a + 5), .ref (a + 6)]) rfl rfl rfl P1.2.2.2.1 ha (by rw [P1.1]; omega) (Nat.le_of_ble_eq_true rfl) rfl (Or.inl rfl) rfl rfl ?_
  have P2 := P1.s0 v1 f pl
  obtain ⟨h2, q2⟩ : ∃ z, pm_set h1 a (.inr (8, [.ref (a + 1), .int v1, .int f, .int pl, .ref (a + 2), .ref (a + 3), .ref (a + 4), .ref (a + 5), .ref (a + 6)])) = z := ⟨_, rfl⟩
  rw [q2] at P2 ⊢
  refine pm_R_lo pm_M58 (pc' := 25) rfl rfl rfl ?_
  refine pm_R_lo pm_M58 (pc' := 26) rfl rfl rfl ?_
  refine pm_R_get pm_M58 (pc' := 29) (v := .int v2) rfl rfl ((P2.2.2.1 b (by omega)).trans eb) hb (by rw [P2.1]; omega) rfl rfl ?_
  refine pm_R_put pm_M58 (pc' := 32) (fs' := [.ref (a + 1), .int v1, .int v2, .int pl, .ref (a + 2), .ref (a + 3), .ref (a + 4), .ref (a + 5), .ref (a + 6)]) rfl rfl rfl P2.2.2.2.1 ha (by rw [P2.1]; omega) (Nat.le_of_ble_eq_true rfl) rfl (Or.inl rfl) rfl rfl ?_
  have P3 := P2.s0 v1 v2 pl
  obtain ⟨h3, q3⟩ : ∃ z, pm_set h2 a (.inr (8, [.ref (a + 1), .int v1, .int v2, .int pl, .ref (a + 2), .ref (a + 3), .ref (a + 4), .ref (a + 5), .ref (a + 6)])) = z := ⟨_, rfl⟩
  rw [q3] at P3 ⊢
  refine pm_R_lo pm_M58 (pc' := 33) rfl rfl rfl ?_
  refine pm_R_lo pm_M58 (pc' := 34) rfl rfl rfl ?_
  refine pm_R_get pm_M58 (pc' := 37) (v := .int v3) rfl rfl ((P3.2.2.1 b (by omega)).trans eb) hb (by rw [P3.1]; omega) rfl rfl ?_
  refine pm_R_put pm_M58 (pc' := 40) (fs' := [.ref (a + 1), .int v1, .int v2, .int v3, .ref (a + 2), .ref (a + 3), .ref (a + 4), .ref (a + 5), .ref (a + 6)]) rfl rfl rfl P3.2.2.2.1 ha (by rw [P3.1]; omega) (Nat.le_of_ble_eq_true rfl) rfl (Or.inl rfl) rfl rfl ?_
  have P4 := P3.s0 v1 v2 v3
  obtain ⟨h4, q4⟩ : ∃ z, pm_set h3 a (.inr (8, [.ref (a + 1), .int v1, .int v2, .int v3, .ref (a + 2), .ref (a + 3), .ref (a + 4), .ref (a + 5), .ref (a + 6)])) = z := ⟨_, rfl⟩
  rw [q4] at P4 ⊢
  refine pm_R_lo pm_M58 (pc' := 41) rfl rfl rfl ?_
  refine pm_R_get pm_M58 (pc' := 44) (v := .ref (b + 6)) rfl rfl ((P4.2.2.1 b (by omega)).trans eb) hb (by rw [P4.1]; omega) rfl rfl ?_
  refine pm_R_op pm_M58 (pc' := 45) (st' := [.int 0, .ref (b + 6)]) rfl rfl rfl ?_
  refine pm_R_lo pm_M58 (pc' := 46) rfl rfl rfl ?_
  refine pm_R_get pm_M58 (pc' := 49) (v := .ref (a + 6)) rfl rfl P4.2.2.2.1 ha (by rw [P4.1]; omega) rfl rfl ?_
  refine pm_R_op pm_M58 (pc' := 50) (st' := [.int 0, .ref (a + 6), .int 0, .ref (b + 6)]) rfl rfl rfl ?_
  refine pm_R_op pm_M58 (pc' := 51) (st' := [.int 4, .int 0, .ref (a + 6), .int 0, .ref (b + 6)]) rfl rfl rfl ?_
  refine pm_R_acp pm_M58 (pc' := 54) rfl rfl rfl ((P4.2.2.1 (b + 6) (by omega)).trans e5) P4.2.2.2.2.2.2.2.2.2 (by omega) (by rw [P4.1]; omega) (by omega) (by rw [P4.1]; omega) (S := 0) (D := 0) (N := 4) rfl rfl rfl (by decide) (by decide) (by decide) (by decide) (by decide) (Nat.le_of_ble_eq_true rfl) rfl ?_
  have P5 := P4.s6 (va_cpy c2 c 0 0 4)
  obtain ⟨h5, q5⟩ : ∃ z, pm_set h4 (a + 6) (.inl (0, 4, .inl (va_cpy c2 c 0 0 4))) = z := ⟨_, rfl⟩
  rw [q5] at P5 ⊢
  refine pm_R_lo pm_M58 (pc' := 55) rfl rfl rfl ?_
  refine pm_R_lo pm_M58 (pc' := 56) rfl rfl rfl ?_
  refine pm_R_cv pm_M58 (pc' := 59) (a := a) (ra := [.ref b]) (rest := []) (ls' := [.ref a, .ref b, pm_no]) rfl rfl (Or.inl rfl) pm_M59 P5.2.2.2.1 rfl ha (by rw [P5.1]; omega) rfl rfl (Nat.le_of_ble_eq_true rfl) rfl rfl ?_
  refine cl_c59 (d := d) (xs := []) ha ha6 hb hb6 hd P5 eb e1 e2 e3 e4 w1 w2 w3 w4 (fun h' P' => ?_)
  show pm_R _ 58 59 [.ref a, .ref b] [] _ _
  exact pm_R_ret pm_M58 (r := none) rfl rfl (K h' P')
end
