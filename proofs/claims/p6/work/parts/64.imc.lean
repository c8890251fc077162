section
/-! images: made, taken, given back -/
variable {d : Nat} {h : pm_H} {Q : Option Value → pm_H → Prop} {ck : cl_K} {E : Nat → pm_E} {m : Nat → Int32} {o : Nat → Option Nat}
/-- again -/
theorem cl_c60 {a0 : Int32} {f : Nat → Option Nat} (G : cl_G ck E) (T : cl_T ck E m o h) (e24 : h.2.2 24 = .inl (8, 3, .inr (.inr (.inr (.inr f))))) (K0 : ((a0.toInt < 0 ∨ 3 ≤ a0.toInt) ∨ (0 ≤ a0.toInt ∧ a0.toInt < 3 ∧ f a0.toNatClampNeg = none)) → Q (some (.int 0)) h) (K1 : ∀ (t : Nat) (v1 v2 v3 : Int32) (m' : Nat → Int32) (h' : pm_H), 0 ≤ a0.toInt → a0.toInt < 3 → f a0.toNatClampNeg = some t → h.2.2 t = .inr (8, [.ref (t + 1), .int v1, .int v2, .int v3, .ref (t + 2), .ref (t + 3), .ref (t + 4), .ref (t + 5), .ref (t + 6)]) → m' 0 = v1 → cl_T ck E m' o h' → cl_F ck [17, 18, 19, 20, 21, 22, 23] 0 0 h h' → rf_W [0, 1, 2] m m' → (∀ x, (x < 17 ∨ 23 < x) → h'.2.2 x = h.2.2 x) → Q (some (.int 1)) h') : pm_R (d + 2) 60 0 [.ref 16, .int a0] [] h Q := by
  have h72 := T.1
  refine pm_R_lo pm_M60 (pc' := 1) rfl rfl rfl ?_
  refine pm_R_ifc pm_M60 (t := 18) (pc' := 4) rfl rfl rfl (fun c => ?_) (fun c => ?_)
  · refine pm_R_op pm_M60 (pc' := 19) (st' := [.int 0]) rfl rfl rfl ?_
    exact pm_R_ret pm_M60 (r := some (.int 0)) rfl rfl (K0 (Or.inl (Or.inl (Int32.lt_iff_toInt_lt.mp c))))
  have c0 : 0 ≤ a0.toInt := Int32.le_iff_toInt_le.mp (Int32.not_lt.mp c)
  refine pm_R_lo pm_M60 (pc' := 5) rfl rfl rfl ?_
  refine pm_R_op pm_M60 (pc' := 6) (st' := [.int 3, .int a0]) rfl rfl rfl ?_
  refine pm_R_icmp pm_M60 (t := 18) (pc' := 9) rfl rfl rfl (fun c3 => ?_) (fun c3 => ?_)
  · refine pm_R_op pm_M60 (pc' := 19) (st' := [.int 0]) rfl rfl rfl ?_
    exact pm_R_ret pm_M60 (r := some (.int 0)) rfl rfl (K0 (Or.inl (Or.inr (Int32.le_iff_toInt_le.mp c3))))
  · have c3' : a0.toInt < 3 := Int32.lt_iff_toInt_lt.mp (Int32.not_le.mp c3)
    have hj : pm_in a0 3 = true := sf_in (a := 0) (b := 2) ⟨c0, by omega⟩ (by decide) (by decide)
    obtain ⟨f0, ef0, hO⟩ := T.C 24 (by decide) (by decide)
    rw [e24] at ef0; cases ef0
    refine pm_R_lo pm_M60 (pc' := 10) rfl rfl rfl ?_
    refine pm_R_get pm_M60 (pc' := 13) (v := .ref 24) rfl rfl T.e16 (by decide) (T.lt (by decide)) rfl rfl ?_
    refine pm_R_lo pm_M60 (pc' := 14) rfl rfl rfl ?_
    rcases hs : f a0.toNatClampNeg with _ | t
    · refine pm_R_aald pm_M60 (pc' := 15) (v := .null) rfl e24 (by decide) (by decide) (by decide) (T.lt (by decide)) hj (by rw [hs]; rfl) rfl ?_
      refine pm_R_br pm_M60 (pc' := 18) rfl rfl ?_
      refine pm_R_op pm_M60 (pc' := 19) (st' := [.int 0]) rfl rfl rfl ?_
      exact pm_R_ret pm_M60 (r := some (.int 0)) rfl rfl (K0 (Or.inr ⟨c0, c3', hs⟩))
    · have hk := hO _ _ hs
      have ht72 := G.1 t (by rw [hk]; decide)
      obtain ⟨q1, q2, q3, q4, q5, q6⟩ := G.2.2.2.2.2.1 t hk
      have l6 := T.al q6 (by decide)
      refine pm_R_aald pm_M60 (pc' := 15) (v := .ref t) rfl e24 (by decide) (by decide) (by decide) (T.lt (by decide)) hj (by rw [hs]; rfl) rfl ?_
      refine pm_R_br pm_M60 (pc' := 20) rfl rfl ?_
      refine pm_R_lo pm_M60 (pc' := 21) rfl rfl rfl ?_
      refine pm_R_get pm_M60 (pc' := 24) (v := .ref 17) rfl rfl T.e16 (by decide) (T.lt (by decide)) rfl rfl ?_
      refine pm_R_lo pm_M60 (pc' := 25) rfl rfl rfl ?_
      refine pm_R_get pm_M60 (pc' := 28) (v := .ref 24) rfl rfl T.e16 (by decide) (T.lt (by decide)) rfl rfl ?_
      refine pm_R_lo pm_M60 (pc' := 29) rfl rfl rfl ?_
      refine pm_R_aald pm_M60 (pc' := 30) (v := .ref t) rfl e24 (by decide) (by decide) (by decide) (T.lt (by decide)) hj (by rw [hs]; rfl) rfl ?_
      obtain ⟨v1, v2, v3, b1, b2, b3, et, ⟨tp2, x1⟩, ⟨g1, x2, y1⟩, ⟨g2, x3, y2⟩, ⟨g3, x4, y3⟩, ⟨g4, x5, y4⟩, ⟨cc, x6, y6⟩, nn⟩ := T.D.1 t hk
      obtain ⟨tp, k1⟩ := T.C 18 (by decide) (by decide)
      obtain ⟨f1, k2, o1⟩ := T.C 19 (by decide) (by decide)
      obtain ⟨f2, k3, o2⟩ := T.C 20 (by decide) (by decide)
      obtain ⟨f3, k4, o3⟩ := T.C 21 (by decide) (by decide)
      obtain ⟨f4, k5, o4⟩ := T.C 22 (by decide) (by decide)
      obtain ⟨c2, k6, o6⟩ := T.C 23 (by decide) (by decide)
      refine pm_R_cv pm_M60 (pc' := 33) (a := 17) (ra := [.ref t]) (rest := []) (ls' := [.ref 17, .ref t]) rfl rfl (Or.inl rfl) pm_M58 T.e17 rfl (by decide) (T.lt (by decide)) rfl rfl (Nat.le_of_ble_eq_true rfl) rfl rfl ?_
      have nd : ∀ x, ck x ≠ 0 → x < 17 ∨ 17 + 6 < x := fun x hx => by have := G.1 x hx; omega
      refine cl_c58 (d := d) (a := 17) (b := t) (by decide) (by omega) (by omega) l6 (by omega) ⟨rfl, rfl, fun _ _ => rfl, T.e17, k1, k2, k3, k4, k5, k6⟩ et x1 x2 x3 x4 x5 x6 (fun i x hx => ?_) (fun i x hx => ?_) (fun i x hx => ?_) (fun i x hx => ?_) (fun h' P => ?_)
      · have z := y1 i x hx; obtain ⟨w1, w2, w3⟩ := cl_txt1 G T z; exact ⟨w1, w2, w3, nd x (by rw [z]; decide)⟩
      · have z := y2 i x hx; obtain ⟨w1, w2, w3⟩ := cl_txt2 G T z; exact ⟨w1, w2, w3, nd x (by rw [z]; decide)⟩
      · have z := y3 i x hx; obtain ⟨w1, w2, w3⟩ := cl_txt3 G T z; exact ⟨w1, w2, w3, nd x (by rw [z]; decide)⟩
      · have z := y4 i x hx; obtain ⟨w1, w2, w3⟩ := cl_txt4 G T z; exact ⟨w1, w2, w3, nd x (by rw [z]; decide)⟩
      · obtain ⟨p1, p2, p3, p4, z1, z2, z3, z4, z5, z6⟩ := P
        have hF : ∀ x, (x < 17 ∨ 23 < x) → h'.2.2 x = h.2.2 x := p3
        have T' : cl_T ck E (upd (upd (upd m 0 v1) 1 v2) 2 v3) o h' := by
          refine ⟨by omega, by rw [hF 16 (by omega)]; exact T.e16, p4, by rw [hF 25 (by omega)]; exact T.e25, by rw [hF 30 (by omega)]; exact T.e30, by rw [hF 31 (by omega)]; exact T.e31, by rw [hF 33 (by omega)]; exact T.e33, fun k => ?_, fun a a1 a2 => ?_, ((nn.fn x2 x3 x4 x5 x6).cp y6).back z2 z3 z4 z5 z6, fun a ha => by rw [p1]; exact T.2.2.2.2.2.2.2.2.2.2.1 a ha, fun a a1 a2 => by have := G.1 a (by omega); rw [hF a (by omega)]; exact T.2.2.2.2.2.2.2.2.2.2.2.1 a a1 a2, cl_D.low G T.D (fun b hb => hF b (by omega)), T.oo, fun a ha => by rw [hF a (by omega)]; exact T.old ha⟩
          · by_cases e0 : k = 2
            · subst e0; exact b3
            · by_cases e1 : k = 1
              · subst e1; exact b2
              · by_cases e2 : k = 0
                · subst e2; exact b1
                · have : upd (upd (upd m 0 v1) 1 v2) 2 v3 k = m k := by unfold upd; rw [if_neg e0, if_neg e1, if_neg e2]
                  rw [this]; exact T.B k
          · by_cases r : a < 18 ∨ 23 < a
            · by_cases e7 : a = 17
              · subst e7; exact trivial
              · rw [hF a (by omega)]; exact T.C a a1 a2
            · rcases (show a = 18 ∨ a = 19 ∨ a = 20 ∨ a = 21 ∨ a = 22 ∨ a = 23 by omega) with w | w | w | w | w | w <;> subst w
              · exact ⟨_, z1⟩
              · exact ⟨_, z2, (o1.upo (y1 0)).upo (y1 1)⟩
              · exact ⟨_, z3, ((o2.upo (y2 0)).upo (y2 1)).upo (y2 2)⟩
              · exact ⟨_, z4, (o3.upo (y3 0)).upo (y3 1)⟩
              · exact ⟨_, z5, (o4.upo (y4 0)).upo (y4 1)⟩
              · exact ⟨_, z6, cl_cpB o6 y6⟩
        show pm_R _ 60 33 [.ref 16, .int a0] [] _ _
        refine pm_R_op pm_M60 (pc' := 34) (st' := [.int 1]) rfl rfl rfl ?_
        refine pm_R_ret pm_M60 (r := some (.int 1)) rfl rfl (K1 t v1 v2 v3 _ h' c0 c3' hs et rfl T' ⟨h72, by omega, by omega, by omega, fun a a1 a2 _ => hF a ?_⟩ (fun k hk => ?_) hF)
        · rcases Nat.lt_or_ge a 17 with w | w
          · exact Or.inl w
          · rcases Nat.lt_or_ge 23 a with y | y
            · exact Or.inr y
            · exact absurd (show a ∈ [17, 18, 19, 20, 21, 22, 23] by rcases (show a = 17 ∨ a = 18 ∨ a = 19 ∨ a = 20 ∨ a = 21 ∨ a = 22 ∨ a = 23 by omega) with w | w | w | w | w | w | w <;> (subst w; decide)) a2
        · have e0 : k ≠ 0 := fun z => hk (by rw [z]; decide)
          have e1 : k ≠ 1 := fun z => hk (by rw [z]; decide)
          have e2 : k ≠ 2 := fun z => hk (by rw [z]; decide)
          unfold upd; rw [if_neg e2, if_neg e1, if_neg e0]
end
