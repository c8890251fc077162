/-- the class's row of digits -/
def cc20 (S S' : ex_S) : Prop := ex_fx (fun a k => a = 30 ∧ (k = 2 ∨ k = 4 ∨ k = 5)) S S' ∧ ∀ n s, S.1 30 1 = Int32.ofNat n → S.1 30 2 = Int32.ofNat s → S.1 30 3 = Int32.ofNat s → s ≤ n → n ≤ 600 → S'.1 30 2 = Int32.ofNat (tk_r tk_di (S.1 18) n s) ∧ S'.1 30 4 = Int32.ofNat (if tk_r tk_di (S.1 18) n s ≤ s + 2 then 2 else 4) ∧ S'.1 30 5 = tk_dv (S.1 18) s (tk_r tk_di (S.1 18) n s)
def ci20 (S T : ex_S) : Prop := ex_fx (fun a k => a = 30 ∧ (k = 2 ∨ k = 4 ∨ k = 5)) S T ∧ ∀ n s, S.1 30 1 = Int32.ofNat n → S.1 30 2 = Int32.ofNat s → S.1 30 3 = Int32.ofNat s → s ≤ n → n ≤ 600 → ∃ i, s ≤ i ∧ i ≤ n ∧ T.1 30 2 = Int32.ofNat i ∧ tk_r tk_di (S.1 18) n i = tk_r tk_di (S.1 18) n s ∧ T.1 30 5 = tk_dv (S.1 18) s i
theorem ci20_out {S T : ex_S} {k : Nat} (hI : ci20 S T) (hx : ∀ n s i : Nat, i ≤ n → n ≤ 600 → T.1 30 1 = Int32.ofNat n → T.1 30 2 = Int32.ofNat i → T.1 30 3 = Int32.ofNat s → s ≤ i → T.1 18 i = S.1 18 i → ¬ (i < n ∧ tk_di (S.1 18 i) = true) ∧ k = if i ≤ s + 2 then 2 else 4) : cc20 S (ex_sx T 30 4 (Int32.ofNat k)) := by
  obtain ⟨F, hI⟩ := hI
  refine ⟨F.sx (by decide), fun n s e1 e2 e3 h1 h2 => ?_⟩
  obtain ⟨i, i1, i2, i3, i4, i5⟩ := hI n s e1 e2 e3 h1 h2
  obtain ⟨x1, x2⟩ := hx n s i i2 h2 ((F.1 30 1 (by decide)).trans e1) i3 ((F.1 30 3 (by decide)).trans e3) i1 (F.1 18 i (by omega))
  have e : tk_r tk_di (S.1 18) n s = i := by rw [← i4]; exact tk_rn x1
  rw [e]
  exact ⟨by rw [ex_sx_ne (by decide), i3], by rw [ex_sx_eq, x2], by rw [ex_sx_ne (by decide), i5]⟩
theorem ec20 : es20 cc20 := by
  refine ev20 (I5 := ci20) ?_ ?_ ?_ ?_ ?_ ?_ ?_
  · intro S
    refine ⟨(ex_fx.refl _ S).sx (by decide), fun n s e1 e2 e3 h1 h2 => ⟨s, Nat.le_refl _, h1, ?_, rfl, ?_⟩⟩
    · rw [ex_sx_ne (by decide), e2]
    · rw [ex_sx_eq]; unfold tk_dv; rw [if_pos rfl]
  · intro S T hI c1 c2
    refine ci20_out (k := 4) hI (fun n s i hi hn t1 t2 t3 hs _ => ?_)
    rw [t1, t2, n32_le (by omega) (by omega)] at c1
    rw [t2, t3, n32_sub hs, show (2 : Int32) = Int32.ofNat 2 from rfl, n32_lt (by omega) (by omega)] at c2
    exact ⟨fun z => absurd z.1 (by omega), by rw [if_neg (by omega)]⟩
  · intro S T hI c1 c2
    refine ci20_out (k := 2) hI (fun n s i hi hn t1 t2 t3 hs _ => ?_)
    rw [t1, t2, n32_le (by omega) (by omega)] at c1
    rw [t2, t3, n32_sub hs, show (2 : Int32) = Int32.ofNat 2 from rfl, n32_lt (by omega) (by omega)] at c2
    exact ⟨fun z => absurd z.1 (by omega), by rw [if_pos (by omega)]⟩
  · intro S T hI c1 c c2
    refine ci20_out (k := 4) hI (fun n s i hi hn t1 t2 t3 hs t4 => ?_)
    rw [t2, n32_tn (by omega), t4, vf19_0] at c
    rw [t2, t3, n32_sub hs, show (2 : Int32) = Int32.ofNat 2 from rfl, n32_lt (by omega) (by omega)] at c2
    exact ⟨fun z => absurd z.2 c, by rw [if_neg (by omega)]⟩
  · intro S T hI c1 c c2
    refine ci20_out (k := 2) hI (fun n s i hi hn t1 t2 t3 hs t4 => ?_)
    rw [t2, n32_tn (by omega), t4, vf19_0] at c
    rw [t2, t3, n32_sub hs, show (2 : Int32) = Int32.ofNat 2 from rfl, n32_lt (by omega) (by omega)] at c2
    exact ⟨fun z => absurd z.2 c, by rw [if_pos (by omega)]⟩
  · intro S T hI c1 c c2
    obtain ⟨F, hI⟩ := hI
    refine ⟨F.sx (by decide), fun n s e1 e2 e3 h1 h2 => ?_⟩
    obtain ⟨i, i1, i2, i3, i4, i5⟩ := hI n s e1 e2 e3 h1 h2
    have t1 : T.1 30 1 = Int32.ofNat n := (F.1 30 1 (by decide)).trans e1
    have t3 : T.1 30 3 = Int32.ofNat s := (F.1 30 3 (by decide)).trans e3
    have t4 : T.1 18 i = S.1 18 i := F.1 18 i (by omega)
    rw [t1, i3, n32_le (by omega) (by omega)] at c1
    rw [i3, n32_tn (by omega), t4, vf19_0, Classical.not_not] at c
    rw [i3, t3, n32_sub i1, show (2 : Int32) = Int32.ofNat 2 from rfl, n32_le (by omega) (by omega)] at c2
    refine ⟨i + 1, by omega, by omega, ?_, ?_, ?_⟩
    · rw [ex_sx_eq, i3, n32_s]
    · rw [← i4, tk_ry (by omega) c]
    · rw [ex_sx_ne (by decide), i5]; unfold tk_dv
      rw [if_neg (by omega), if_neg (by omega), if_neg (by omega), if_neg (by omega)]
  · intro S T hI c1 c c2
    obtain ⟨F, hI⟩ := hI
    refine ⟨(F.sx (by decide)).sx (by decide), fun n s e1 e2 e3 h1 h2 => ?_⟩
    obtain ⟨i, i1, i2, i3, i4, i5⟩ := hI n s e1 e2 e3 h1 h2
    have t1 : T.1 30 1 = Int32.ofNat n := (F.1 30 1 (by decide)).trans e1
    have t3 : T.1 30 3 = Int32.ofNat s := (F.1 30 3 (by decide)).trans e3
    have t4 : T.1 18 i = S.1 18 i := F.1 18 i (by omega)
    rw [t1, i3, n32_le (by omega) (by omega)] at c1
    rw [i3, n32_tn (by omega), t4, vf19_0, Classical.not_not] at c
    rw [i3, t3, n32_sub i1, show (2 : Int32) = Int32.ofNat 2 from rfl, n32_le (by omega) (by omega)] at c2
    refine ⟨i + 1, by omega, by omega, ?_, ?_, ?_⟩
    · rw [ex_sx_eq, i3, n32_s]
    · rw [← i4, tk_ry (by omega) c]
    · rw [ex_sx_ne (by decide), ex_sx_eq, i3, n32_tn (by omega), t4, i5]
      unfold tk_dv
      by_cases hi : i = s
      · subst hi; rw [if_pos rfl, if_neg (by omega), if_pos rfl]
      · have : i = s + 1 := by omega
        subst this
        rw [if_neg hi, if_pos rfl, if_neg (by omega), if_neg (by omega)]
/-- where the class stands on its tape -/
def tc_at (S : ex_S) (n b : Nat) : Prop := S.1 30 1 = Int32.ofNat n ∧ S.1 30 2 = Int32.ofNat b ∧ b ≤ n ∧ n ≤ 600
def cc16 (S S' : ex_S) : Prop := ex_fx (fun a k => a = 30 ∧ 2 ≤ k) S S' ∧ ∀ n b, tc_at S n b → S'.1 30 3 = Int32.ofNat (tk_s (S.1 18) n b) ∧ S'.1 30 2 = Int32.ofNat (tk_e (S.1 18) n b) ∧ S'.1 30 4 = Int32.ofNat (tk_k (S.1 18) n b) ∧ (tk_k (S.1 18) n b = 2 → S'.1 30 5 = tk_v (S.1 18) n b)
def ci16 (S T : ex_S) : Prop := ex_fx (fun a k => a = 30 ∧ 2 ≤ k) S T ∧ ∀ n b, tc_at S n b → ∃ i, b ≤ i ∧ i ≤ n ∧ T.1 30 3 = Int32.ofNat i ∧ tk_r tk_bl (S.1 18) n i = tk_s (S.1 18) n b
def cj16 (S T : ex_S) : Prop := ex_fx (fun a k => a = 30 ∧ 2 ≤ k) S T ∧ ∀ n b, tc_at S n b → tk_s (S.1 18) n b < n ∧ tk_le (S.1 18 (tk_s (S.1 18) n b)) = true ∧ T.1 30 3 = Int32.ofNat (tk_s (S.1 18) n b) ∧ ∃ i, tk_s (S.1 18) n b ≤ i ∧ i ≤ n ∧ T.1 30 2 = Int32.ofNat i ∧ tk_r tk_le (S.1 18) n i = tk_r tk_le (S.1 18) n (tk_s (S.1 18) n b)
/-- behind the blanks -/
theorem ci16_s {S T : ex_S} (hI : ci16 S T) (hx : ∀ n i : Nat, i ≤ n → n ≤ 600 → T.1 30 1 = Int32.ofNat n → T.1 30 3 = Int32.ofNat i → T.1 18 i = S.1 18 i → ¬ (i < n ∧ tk_bl (S.1 18 i) = true)) {n b : Nat} (hb : tc_at S n b) : T.1 30 1 = Int32.ofNat n ∧ T.1 30 3 = Int32.ofNat (tk_s (S.1 18) n b) ∧ tk_s (S.1 18) n b ≤ n ∧ n ≤ 600 ∧ T.1 18 (tk_s (S.1 18) n b) = S.1 18 (tk_s (S.1 18) n b) := by
  obtain ⟨F, hI⟩ := hI
  obtain ⟨i, i1, i2, i3, i4⟩ := hI n b hb
  have t1 : T.1 30 1 = Int32.ofNat n := (F.1 30 1 (by decide)).trans hb.1
  have e : tk_s (S.1 18) n b = i := by rw [← i4]; exact tk_rn (hx n i i2 hb.2.2.2 t1 i3 (F.1 18 i (by omega)))
  rw [e]; exact ⟨t1, i3, i2, hb.2.2.2, F.1 18 i (by omega)⟩
theorem ec16 : es16 cc16 := by
  have X0 : ∀ S T : ex_S, T.1 30 1 ≤ T.1 30 3 → ∀ n i : Nat, i ≤ n → n ≤ 600 → T.1 30 1 = Int32.ofNat n → T.1 30 3 = Int32.ofNat i → T.1 18 i = S.1 18 i → ¬ (i < n ∧ tk_bl (S.1 18 i) = true) := by
    intro S T c n i hi hn t1 t3 _ z
    rw [t1, t3, n32_le (by omega) (by omega)] at c; omega
  have X1 : ∀ S T : ex_S, vf17 (T.1 18 ((T.1 30 3).toNatClampNeg)) = 0 → ∀ n i : Nat, i ≤ n → n ≤ 600 → T.1 30 1 = Int32.ofNat n → T.1 30 3 = Int32.ofNat i → T.1 18 i = S.1 18 i → ¬ (i < n ∧ tk_bl (S.1 18 i) = true) := by
    intro S T c n i hi hn t1 t3 t4 z
    rw [t3, n32_tn (by omega), t4, vf17_0] at c; exact c z.2
  refine ev16 (I8 := ci16) (I89 := cj16) ec20 ?_ ?_ ?_ ?_ ?_ ?_ ?_ ?_ ?_ ?_
  · intro S
    refine ⟨(ex_fx.refl _ S).sx (by decide), fun n b hb => ⟨b, Nat.le_refl _, hb.2.2.1, ?_, rfl⟩⟩
    rw [ex_sx_eq, hb.2.1]
  · intro S T hI c1
    refine ⟨(hI.1.sx (by decide)).sx (by decide), fun n b hb => ?_⟩
    obtain ⟨t1, t3, hs, hn, t4⟩ := ci16_s hI (X0 S T c1) hb
    rw [t1, t3, n32_le (by omega) (by omega)] at c1
    have ns : ¬ tk_s (S.1 18) n b < n := by omega
    have k0 : tk_k (S.1 18) n b = 0 := by unfold tk_k; rw [if_neg ns]
    refine ⟨by rw [ex_sx_ne (by decide), ex_sx_ne (by decide), t3], ?_, by rw [ex_sx_eq, k0]; rfl, fun z => absurd z (by omega)⟩
    rw [ex_sx_ne (by decide), ex_sx_eq, t3]; unfold tk_e; rw [if_neg ns]
  · intro S T hI c1 c2 c3 c4 c5
    refine ⟨((hI.1.sx (by decide)).sx (by decide)).sx (by decide), fun n b hb => ?_⟩
    obtain ⟨t1, t3, hs, hn, t4⟩ := ci16_s hI (X1 S T c2) hb
    rw [t1, t3, n32_le (by omega) (by omega)] at c1
    rw [t3, n32_tn (by omega), t4, vf18_0] at c3
    rw [t3, n32_tn (by omega), t4, vf19_0] at c4
    rw [t3, n32_tn (by omega), t4] at c5
    have ns : tk_s (S.1 18) n b < n := by omega
    have k0 : tk_k (S.1 18) n b = 4 := by unfold tk_k; rw [if_pos ns, if_neg c3, if_neg c4, if_neg c5]
    refine ⟨by rw [ex_sx_ne (by decide), ex_sx_ne (by decide), ex_sx_ne (by decide), t3], ?_, by rw [ex_sx_ne (by decide), ex_sx_eq, k0]; rfl, fun z => absurd z (by omega)⟩
    rw [ex_sx_eq, t3, n32_s]; unfold tk_e; rw [if_pos ns, if_neg c3, if_neg c4]
  · intro S T hI c1 c2 c3 c4 c5
    refine ⟨((hI.1.sx (by decide)).sx (by decide)).sx (by decide), fun n b hb => ?_⟩
    obtain ⟨t1, t3, hs, hn, t4⟩ := ci16_s hI (X1 S T c2) hb
    rw [t1, t3, n32_le (by omega) (by omega)] at c1
    rw [t3, n32_tn (by omega), t4, vf18_0] at c3
    rw [t3, n32_tn (by omega), t4, vf19_0] at c4
    rw [t3, n32_tn (by omega), t4, Classical.not_not] at c5
    have ns : tk_s (S.1 18) n b < n := by omega
    have k0 : tk_k (S.1 18) n b = 3 := by unfold tk_k; rw [if_pos ns, if_neg c3, if_neg c4, if_pos c5]
    refine ⟨by rw [ex_sx_ne (by decide), ex_sx_ne (by decide), ex_sx_ne (by decide), t3], ?_, by rw [ex_sx_ne (by decide), ex_sx_eq, k0]; rfl, fun z => absurd z (by omega)⟩
    rw [ex_sx_eq, t3, n32_s]; unfold tk_e; rw [if_pos ns, if_neg c3, if_neg c4]
  · intro S T hI c1 c2 c3 c4 U hU
    obtain ⟨G, hU⟩ := hU
    refine ⟨(hI.1.sx (a := 30) (k := 2) (by decide)).trans (G.mono (fun a k z => by omega)), fun n b hb => ?_⟩
    obtain ⟨t1, t3, hs, hn, t4⟩ := ci16_s hI (X1 S T c2) hb
    rw [t1, t3, n32_le (by omega) (by omega)] at c1
    rw [t3, n32_tn (by omega), t4, vf18_0] at c3
    rw [t3, n32_tn (by omega), t4, vf19_0, Classical.not_not] at c4
    have ns : tk_s (S.1 18) n b < n := by omega
    have e18 : (ex_sx T 30 2 (T.1 30 3)).1 18 = S.1 18 := by
      funext j; rw [ex_sx_ne (by omega)]; exact hI.1.1 18 j (by omega)
    obtain ⟨u1, u2, u3⟩ := hU n (tk_s (S.1 18) n b) (by rw [ex_sx_ne (by decide), t1]) (by rw [ex_sx_eq, t3]) (by rw [ex_sx_ne (by decide), t3]) hs hn
    rw [e18] at u1 u2 u3
    refine ⟨?_, ?_, ?_, fun _ => ?_⟩
    · rw [G.1 30 3 (by decide), ex_sx_ne (by decide), t3]
    · rw [u1]; unfold tk_e; rw [if_pos ns, if_neg c3, if_pos c4]
    · rw [u2]; unfold tk_k; rw [if_pos ns, if_neg c3, if_pos c4]
    · rw [u3]; rfl
  · intro S T hI c1 c2 c3
    refine ⟨hI.1.sx (by decide), fun n b hb => ?_⟩
    obtain ⟨t1, t3, hs, hn, t4⟩ := ci16_s hI (X1 S T c2) hb
    rw [t1, t3, n32_le (by omega) (by omega)] at c1
    rw [t3, n32_tn (by omega), t4, vf18_0, Classical.not_not] at c3
    exact ⟨by omega, c3, by rw [ex_sx_ne (by decide), t3], _, Nat.le_refl _, hs, by rw [ex_sx_eq, t3], rfl⟩
  · intro S T hI c1 c2
    obtain ⟨F, hI⟩ := hI
    refine ⟨F.sx (by decide), fun n b hb => ?_⟩
    obtain ⟨i, i1, i2, i3, i4⟩ := hI n b hb
    have hn := hb.2.2.2
    have t1 : T.1 30 1 = Int32.ofNat n := (F.1 30 1 (by decide)).trans hb.1
    have t4 : T.1 18 i = S.1 18 i := F.1 18 i (by omega)
    rw [t1, i3, n32_le (by omega) (by omega)] at c1
    rw [i3, n32_tn (by omega), t4, vf17_0, Classical.not_not] at c2
    exact ⟨i + 1, by omega, by omega, by rw [ex_sx_eq, i3, n32_s], by rw [← i4, tk_ry (by omega) c2]⟩
  · intro S T hI c1
    obtain ⟨F, hI⟩ := hI
    refine ⟨F.sx (by decide), fun n b hb => ?_⟩
    obtain ⟨ns, hl, t3, i, i1, i2, i3, i4⟩ := hI n b hb
    have hn := hb.2.2.2
    have t1 : T.1 30 1 = Int32.ofNat n := (F.1 30 1 (by decide)).trans hb.1
    rw [t1, i3, n32_le (by omega) (by omega)] at c1
    have e : tk_r tk_le (S.1 18) n (tk_s (S.1 18) n b) = i := by rw [← i4]; exact tk_rn (fun z => absurd z.1 (by omega))
    have k0 : tk_k (S.1 18) n b = 1 := by unfold tk_k; rw [if_pos ns, if_pos hl]
    refine ⟨by rw [ex_sx_ne (by decide), t3], ?_, by rw [ex_sx_eq, k0]; rfl, fun z => absurd z (by omega)⟩
    rw [ex_sx_ne (by decide), i3]; unfold tk_e; rw [if_pos ns, if_pos hl, e]
  · intro S T hI c1 c2
    obtain ⟨F, hI⟩ := hI
    refine ⟨F.sx (by decide), fun n b hb => ?_⟩
    obtain ⟨ns, hl, t3, i, i1, i2, i3, i4⟩ := hI n b hb
    have hn := hb.2.2.2
    have t4 : T.1 18 i = S.1 18 i := F.1 18 i (by omega)
    rw [i3, n32_tn (by omega), t4, vf18_0] at c2
    have e : tk_r tk_le (S.1 18) n (tk_s (S.1 18) n b) = i := by rw [← i4]; exact tk_rn (fun z => absurd z.2 c2)
    have k0 : tk_k (S.1 18) n b = 1 := by unfold tk_k; rw [if_pos ns, if_pos hl]
    refine ⟨by rw [ex_sx_ne (by decide), t3], ?_, by rw [ex_sx_eq, k0]; rfl, fun z => absurd z (by omega)⟩
    rw [ex_sx_ne (by decide), i3]; unfold tk_e; rw [if_pos ns, if_pos hl, e]
  · intro S T hI c1 c2
    obtain ⟨F, hI⟩ := hI
    refine ⟨F.sx (by decide), fun n b hb => ?_⟩
    obtain ⟨ns, hl, t3, i, i1, i2, i3, i4⟩ := hI n b hb
    have hn := hb.2.2.2
    have t1 : T.1 30 1 = Int32.ofNat n := (F.1 30 1 (by decide)).trans hb.1
    have t4 : T.1 18 i = S.1 18 i := F.1 18 i (by omega)
    rw [t1, i3, n32_le (by omega) (by omega)] at c1
    rw [i3, n32_tn (by omega), t4, vf18_0, Classical.not_not] at c2
    exact ⟨ns, hl, by rw [ex_sx_ne (by decide), t3], i + 1, by omega, by omega, by rw [ex_sx_eq, i3, n32_s], by rw [← i4, tk_ry (by omega) c2]⟩
