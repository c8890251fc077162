section
/-! images: made, taken, given back -/
variable {d : Nat} {h : pm_H} {Q : Option Value → pm_H → Prop} {ck : cl_K} {E : Nat → pm_E} {m : Nat → Int32} {o : Nat → Option Nat}
theorem cl_T.put24 (G : cl_G ck E) (T : cl_T ck E m o h) {f : Nat → Option Nat} (hx : cl_O ck 15 f) : cl_T ck E m o (pm_set h 24 (.inl (8, 3, .inr (.inr (.inr (.inr f)))))) := by
  refine ⟨T.1, by rw [cl_set_ne (by omega)]; exact T.e16, by rw [cl_set_ne (by omega)]; exact T.e17, by rw [cl_set_ne (by omega)]; exact T.e25, by rw [cl_set_ne (by omega)]; exact T.e30, by rw [cl_set_ne (by omega)]; exact T.e31, by rw [cl_set_ne (by omega)]; exact T.e33, T.B, fun b b1 b2 => ?_, ?_, T.2.2.2.2.2.2.2.2.2.2.1, fun b b1 b2 => ?_, cl_D.low G T.D (fun b hb => cl_set_ne (by omega)), T.oo, fun b hb => by rw [cl_set_ne (by omega)]; exact T.old hb⟩
  · by_cases hb : b = 24
    · subst hb; rw [cl_set_eq]; exact ⟨f, rfl, hx⟩
    · rw [cl_set_ne hb]; exact T.C b b1 b2
  · rw [cl_set_ne (by omega), cl_set_ne (by omega), cl_set_ne (by omega), cl_set_ne (by omega), cl_set_ne (by omega)]; exact T.N
  · have := G.1 b (by omega)
    rw [cl_set_ne (by omega)]
    exact T.2.2.2.2.2.2.2.2.2.2.2.1 b b1 b2
theorem cl_c57_t {a0 : Int32} {t : Nat} {f : Nat → Option Nat} (G : cl_G ck E) (T : cl_T ck E m o h) (e24 : h.2.2 24 = .inl (8, 3, .inr (.inr (.inr (.inr f))))) (hj : pm_in a0 3 = true) (hf : f a0.toNatClampNeg = some t) (hk : ck t = 15) (K : ∀ h', cl_T ck E m o h' → h'.1 = h.1 → h'.2.1 = h.2.1 → (∀ x, (x < t ∨ t + 6 < x) → h'.2.2 x = h.2.2 x) → h'.2.2 t = .inr (8, [.ref (t + 1), .int (m 0), .int (m 1), .int (m 2), .ref (t + 2), .ref (t + 3), .ref (t + 4), .ref (t + 5), .ref (t + 6)]) → Q (some (.int 1)) h') : pm_R (d + 2) 57 33 [.ref 16, .int a0] [] h Q := by
  have h72 := G.1 t (by rw [hk]; decide)
  obtain ⟨q1, q2, q3, q4, q5, q6⟩ := G.2.2.2.2.2.1 t hk
  have l6 := T.al q6 (by decide)
  have hT := T.1
  refine pm_R_lo pm_M57 (pc' := 34) rfl rfl rfl ?_
  refine pm_R_get pm_M57 (pc' := 37) (v := .ref 24) rfl rfl T.e16 (by decide) (T.lt (by decide)) rfl rfl ?_
  refine pm_R_lo pm_M57 (pc' := 38) rfl rfl rfl ?_
  refine pm_R_aald pm_M57 (pc' := 39) (v := .ref t) rfl e24 (by decide) (by decide) (by decide) (T.lt (by decide)) hj (by rw [hf]; rfl) rfl ?_
  refine pm_R_lo pm_M57 (pc' := 40) rfl rfl rfl ?_
  refine pm_R_get pm_M57 (pc' := 43) (v := .ref 17) rfl rfl T.e16 (by decide) (T.lt (by decide)) rfl rfl ?_
  obtain ⟨s, f', u, b1, b2, b3, et, ⟨tp, c1⟩, ⟨f1, c2, o1⟩, ⟨f2, c3, o2⟩, ⟨f3, c4, o3⟩, ⟨f4, c5, o4⟩, ⟨c, c6, o6⟩, nn⟩ := T.D.1 t hk
  obtain ⟨tp2, x1⟩ := T.C 18 (by decide) (by decide)
  obtain ⟨g1, x2, y1⟩ := T.C 19 (by decide) (by decide)
  obtain ⟨g2, x3, y2⟩ := T.C 20 (by decide) (by decide)
  obtain ⟨g3, x4, y3⟩ := T.C 21 (by decide) (by decide)
  obtain ⟨g4, x5, y4⟩ := T.C 22 (by decide) (by decide)
  obtain ⟨cc, x6, y6⟩ := T.C 23 (by decide) (by decide)
  refine pm_R_cv pm_M57 (pc' := 46) (a := t) (ra := [.ref 17]) (rest := []) (ls' := [.ref t, .ref 17]) rfl rfl (Or.inl rfl) pm_M58 et rfl (G.ge hk (by decide)) (T.al hk (by decide)) rfl rfl (Nat.le_of_ble_eq_true rfl) rfl rfl ?_
  refine cl_c58 (d := d) (a := t) (b := 17) (by omega) l6 (by decide) (by omega) (by omega) ⟨rfl, rfl, fun _ _ => rfl, et, c1, c2, c3, c4, c5, c6⟩ T.e17 x1 x2 x3 x4 x5 x6 (fun i x hx => ?_) (fun i x hx => ?_) (fun i x hx => ?_) (fun i x hx => ?_) (fun h' P => ?_)
  · have z := y1 i x hx; obtain ⟨w1, w2, w3⟩ := cl_txt1 G T z; exact ⟨w1, w2, w3, cl_off G hk z (Or.inl (by decide))⟩
  · have z := y2 i x hx; obtain ⟨w1, w2, w3⟩ := cl_txt2 G T z; exact ⟨w1, w2, w3, cl_off G hk z (Or.inl (by decide))⟩
  · have z := y3 i x hx; obtain ⟨w1, w2, w3⟩ := cl_txt3 G T z; exact ⟨w1, w2, w3, cl_off G hk z (Or.inl (by decide))⟩
  · have z := y4 i x hx; obtain ⟨w1, w2, w3⟩ := cl_txt4 G T z; exact ⟨w1, w2, w3, cl_off G hk z (Or.inl (by decide))⟩
  · obtain ⟨p1, p2, p3, p4, k1, k2, k3, k4, k5, k6⟩ := P
    have I : cl_I ck h' t := ⟨m 0, m 1, m 2, T.B 0, T.B 1, T.B 2, p4, ⟨_, k1⟩, ⟨_, k2, (o1.upo (y1 0)).upo (y1 1)⟩, ⟨_, k3, ((o2.upo (y2 0)).upo (y2 1)).upo (y2 2)⟩, ⟨_, k4, (o3.upo (y3 0)).upo (y3 1)⟩, ⟨_, k5, (o4.upo (y4 0)).upo (y4 1)⟩, ⟨_, k6, cl_cpB o6 y6⟩, ((T.N.fn x2 x3 x4 x5 x6).cp y6).back k2 k3 k4 k5 k6⟩
    show pm_R _ 57 46 [.ref 16, .int a0] [] _ _
    refine pm_R_op pm_M57 (pc' := 47) (st' := [.int 1]) rfl rfl rfl ?_
    exact pm_R_ret pm_M57 (r := some (.int 1)) rfl rfl (K h' (T.img G hk p1 p3 I) p1 p2 p3 p4)
/-- image -/
theorem cl_c57 {a0 : Int32} {f : Nat → Option Nat} (G : cl_G ck E) (T : cl_T ck E m o h) (e24 : h.2.2 24 = .inl (8, 3, .inr (.inr (.inr (.inr f))))) (K0 : (a0.toInt < 0 ∨ 3 ≤ a0.toInt) → Q (some (.int 0)) h) (K1 : ∀ (t : Nat) (ck' : cl_K) (h' : pm_H), 0 ≤ a0.toInt → a0.toInt < 3 → (∀ b, b < h.1 → ck' b = ck b) → cl_G ck' E → cl_T ck' E m o h' → (h.1 ≤ h'.1 ∧ h'.1 ≤ h.1 + 7 ∧ h'.2.1 ≤ h.2.1 + 622) → h'.2.2 24 = .inl (8, 3, .inr (.inr (.inr (.inr (va_up f a0.toNatClampNeg (some t)))))) → (f a0.toNatClampNeg = some t ∨ h.1 ≤ t) → ck' t = 15 → h'.2.2 t = .inr (8, [.ref (t + 1), .int (m 0), .int (m 1), .int (m 2), .ref (t + 2), .ref (t + 3), .ref (t + 4), .ref (t + 5), .ref (t + 6)]) → (∀ b, b < h.1 → ck b = 15 → b ≠ t → h'.2.2 b = h.2.2 b) → (∀ a, a < 72 → a ≠ 24 → h'.2.2 a = h.2.2 a) → Q (some (.int 1)) h') : pm_R (d + 2) 57 0 [.ref 16, .int a0] [] h Q := by
  have h72 := T.1
  refine pm_R_lo pm_M57 (pc' := 1) rfl rfl rfl ?_
  refine pm_R_ifc pm_M57 (t := 9) (pc' := 4) rfl rfl rfl (fun c => ?_) (fun c => ?_)
  · refine pm_R_op pm_M57 (pc' := 10) (st' := [.int 0]) rfl rfl rfl ?_
    exact pm_R_ret pm_M57 (r := some (.int 0)) rfl rfl (K0 (Or.inl (Int32.lt_iff_toInt_lt.mp c)))
  have c0 : 0 ≤ a0.toInt := Int32.le_iff_toInt_le.mp (Int32.not_lt.mp c)
  refine pm_R_lo pm_M57 (pc' := 5) rfl rfl rfl ?_
  refine pm_R_op pm_M57 (pc' := 6) (st' := [.int 3, .int a0]) rfl rfl rfl ?_
  refine pm_R_icmp pm_M57 (t := 11) (pc' := 9) rfl rfl rfl (fun c3 => ?_) (fun c3 => ?_)
  · have c3' : a0.toInt < 3 := Int32.lt_iff_toInt_lt.mp c3
    have hj : pm_in a0 3 = true := sf_in (a := 0) (b := 2) ⟨c0, by omega⟩ (by decide) (by decide)
    obtain ⟨f0, ef0, hO⟩ := T.C 24 (by decide) (by decide)
    rw [e24] at ef0; cases ef0
    refine pm_R_lo pm_M57 (pc' := 12) rfl rfl rfl ?_
    refine pm_R_get pm_M57 (pc' := 15) (v := .ref 24) rfl rfl T.e16 (by decide) (T.lt (by decide)) rfl rfl ?_
    refine pm_R_lo pm_M57 (pc' := 16) rfl rfl rfl ?_
    rcases hs : f a0.toNatClampNeg with _ | t
    · refine pm_R_aald pm_M57 (pc' := 17) (v := .null) rfl e24 (by decide) (by decide) (by decide) (T.lt (by decide)) hj (by rw [hs]; rfl) rfl ?_
      refine pm_R_br pm_M57 (pc' := 20) rfl rfl ?_
      refine pm_R_lo pm_M57 (pc' := 21) rfl rfl rfl ?_
      refine pm_R_get pm_M57 (pc' := 24) (v := .ref 24) rfl rfl T.e16 (by decide) (T.lt (by decide)) rfl rfl ?_
      refine pm_R_lo pm_M57 (pc' := 25) rfl rfl rfl ?_
      refine pm_R_new pm_M57 (pc' := 28) (fs := [.null, .int 0, .int 0, .int 0, .null, .null, .null, .null, .null]) rfl rfl rfl rfl rfl ?_
      refine pm_R_op pm_M57 (pc' := 29) (st' := [.ref h.1, .ref h.1, .int a0, .ref 24]) rfl rfl rfl ?_
      obtain ⟨h1, e1⟩ : ∃ z, pm_push h (.inr (8, [.null, .int 0, .int 0, .int 0, .null, .null, .null, .null, .null])) 9 = z := ⟨_, rfl⟩
      have a1 : h1.1 = h.1 + 1 := by rw [← e1]; rfl
      have s1 : h1.2.1 = h.2.1 + 9 := by rw [← e1]; rfl
      have o1 : ∀ b, b < h.1 → h1.2.2 b = h.2.2 b := fun b hb => by rw [← e1]; exact cl_push_lt hb
      have t1 : h1.2.2 h.1 = .inr (8, [.null, .int 0, .int 0, .int 0, .null, .null, .null, .null, .null]) := by rw [← e1]; exact cl_push_eq
      show pm_R _ 57 29 _ _ (pm_push h (.inr (8, [.null, .int 0, .int 0, .int 0, .null, .null, .null, .null, .null])) 9) _
      rw [e1]
      refine pm_R_ci pm_M57 (pc' := 32) (a := h.1) (ra := []) (rest := [.ref h.1, .int a0, .ref 24]) (ls' := [.ref h.1]) rfl rfl (Or.inr rfl) pm_M2 rfl rfl (Nat.le_of_ble_eq_true rfl) rfl rfl ?_
      refine cl_x2 (d := d + 1) (t := h.1) ((o1 1 (by omega)).trans ((T.old (by decide)).trans G.2.2.2.2.2.2.2.2.1)) t1 h72 a1 (fun h2 a2 s2 o2 t2 k1 k2 k3 k4 k5 k6 => ?_)
      have hh : ∀ b, b < h.1 → h2.2.2 b = h.2.2 b := fun b hb => (o2 b hb).trans (o1 b hb)
      have lt0 := T.2.2.2.2.2.2.2.2.2.2.1
      have G2 : cl_G (cl_gr ck h.1 7 15) E := cl_gr_G G lt0 h72 (by unfold cl_gp; omega) (fun _ _ => rfl) (fun z => absurd z (by decide)) (fun z => absurd z (by decide)) (fun z => absurd z (by decide)) (fun z => absurd z (by decide))
      have nO : ∀ k, cl_O (cl_gr ck h.1 7 15) k (fun _ => none) := fun k i b hb => by cases hb
      have I0 : cl_I (cl_gr ck h.1 7 15) h2 h.1 := ⟨0, 0, -1, ⟨by decide, by decide⟩, ⟨by decide, by decide⟩, ⟨by decide, by decide⟩, t2, ⟨_, k1⟩, ⟨_, k2, nO _⟩, ⟨_, k3, nO _⟩, ⟨_, k4, nO _⟩, ⟨_, k5, nO _⟩, ⟨_, k6, fun j => sf_z (by decide) (by split <;> decide)⟩, cl_NF.back ⟨fun i hi => absurd hi (by show ¬ (i : Int) < 0; omega), fun i hi => absurd hi (by show ¬ (i : Int) < 0; omega), fun i hi => absurd hi (by show ¬ (i : Int) < 0; omega), fun i hi => absurd hi (by show ¬ (i : Int) < 0; omega)⟩ k2 k3 k4 k5 k6⟩
      have T2 : cl_T (cl_gr ck h.1 7 15) E m o h2 := T.grow G (by unfold cl_gp; omega) (fun _ _ => rfl) hh (by omega) (fun z => absurd z (by decide)) (fun _ => I0) (fun z => absurd z (by decide)) (fun z => absurd z (by decide))
      have kc : cl_gr ck h.1 7 15 h.1 = 15 := cl_gr_new0 (by decide)
      have old := cl_gr_old (n := 7) (k0 := 15) lt0
      have e2 := (hh 24 (by omega)).trans e24
      have hO2 : cl_O (cl_gr ck h.1 7 15) 15 f := fun i b hb => by
        have := hO i b hb
        rw [old b (by rw [this]; decide)]; exact this
      have T3 := T2.put24 G2 (f := va_up f a0.toNatClampNeg (some h.1)) (hO2.up kc)
      show pm_R _ 57 32 [.ref 16, .int a0] [.ref h.1, .int a0, .ref 24] _ _
      refine pm_R_aast pm_M57 (pc' := 33) rfl e2 t2 rfl (by decide) (by omega) (by omega) (by omega) hj rfl ?_
      refine cl_c57_t (d := d) (t := h.1) G2 T3 cl_set_eq hj cl_upS kc (fun h' T' p1 p2 p3 p4 => ?_)
      have hb' : ∀ b, b < h.1 → b ≠ 24 → h'.2.2 b = h.2.2 b := fun b hb hn => by rw [p3 b (Or.inl hb), cl_set_ne hn]; exact hh b hb
      refine K1 h.1 _ h' c0 c3' (fun b hb => cl_gr_lt hb) G2 T' ⟨by rw [p1]; show h.1 ≤ h2.1; omega, by rw [p1]; show h2.1 ≤ _; omega, by rw [p2]; show h2.2.1 ≤ _; omega⟩ ?_ (Or.inr (Nat.le_refl _)) kc p4 (fun b hb hk hn => ?_) (fun a ha hn => hb' a (by omega) hn)
      · rw [p3 24 (Or.inl (by omega))]; exact cl_set_eq
      · have := G.1 b (by rw [hk]; decide)
        exact hb' b hb (by omega)
    · have hk := hO _ _ hs
      have ht72 := G.1 t (by rw [hk]; decide)
      refine pm_R_aald pm_M57 (pc' := 17) (v := .ref t) rfl e24 (by decide) (by decide) (by decide) (T.lt (by decide)) hj (by rw [hs]; rfl) rfl ?_
      refine pm_R_br pm_M57 (pc' := 33) rfl rfl ?_
      refine cl_c57_t (d := d) (t := t) G T e24 hj hs hk (fun h' T' p1 p2 p3 p4 => ?_)
      refine K1 t ck h' c0 c3' (fun _ _ => rfl) G T' ⟨by omega, by omega, by omega⟩ ?_ (Or.inl hs) hk p4 (fun b hb hkb hn => p3 b (by have := cl_off15 G hk hkb hn 0 (by decide); omega)) (fun a ha hn => p3 a (by omega))
      rw [p3 24 (by omega), e24]
      have : va_up f a0.toNatClampNeg (some t) = f := by
        funext i
        by_cases e : i = a0.toNatClampNeg
        · rw [e, cl_upS, hs]
        · exact cl_upO e
      rw [this]
  · refine pm_R_op pm_M57 (pc' := 10) (st' := [.int 0]) rfl rfl rfl ?_
    exact pm_R_ret pm_M57 (r := some (.int 0)) rfl rfl (K0 (Or.inr (Int32.le_iff_toInt_le.mp (Int32.not_lt.mp c3))))
end
