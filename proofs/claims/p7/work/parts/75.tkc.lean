section
/-- the class's row of digits -/
def cc20 (S S_q : ex_S) : Prop := ex_fx (fun a k => a = 30 ∧ (k = 2 ∨ k = 4 ∨ k = 5)) S S_q ∧ ∀ n s, S.1 30 1 = Int32.ofNat n → S.1 30 2 = Int32.ofNat s → S.1 30 3 = Int32.ofNat s → s ≤ n → n ≤ 600 → S_q.1 30 2 = Int32.ofNat (tk_r tk_di (S.1 18) n s) ∧ S_q.1 30 4 = Int32.ofNat (if tk_r tk_di (S.1 18) n s ≤ s + 2 then 2 else 4) ∧ S_q.1 30 5 = tk_dv (S.1 18) s (tk_r tk_di (S.1 18) n s)
def ci20 (S T : ex_S) : Prop := ex_fx (fun a k => a = 30 ∧ (k = 2 ∨ k = 4 ∨ k = 5)) S T ∧ ∀ n s, S.1 30 1 = Int32.ofNat n → S.1 30 2 = Int32.ofNat s → S.1 30 3 = Int32.ofNat s → s ≤ n → n ≤ 600 → ∃ i, s ≤ i ∧ i ≤ n ∧ T.1 30 2 = Int32.ofNat i ∧ tk_r tk_di (S.1 18) n i = tk_r tk_di (S.1 18) n s ∧ T.1 30 5 = tk_dv (S.1 18) s i
theorem ci20_out {S T : ex_S} {k : Nat} (hI : ci20 S T) (hx : ∀ n s i : Nat, i ≤ n → n ≤ 600 → T.1 30 1 = Int32.ofNat n → T.1 30 2 = Int32.ofNat i → T.1 30 3 = Int32.ofNat s → s ≤ i → T.1 18 i = S.1 18 i → ¬ (i < n ∧ tk_di (S.1 18 i) = true) ∧ k = if i ≤ s + 2 then 2 else 4) : cc20 S (ex_sx T 30 4 (Int32.ofNat k)) := by
  obtain ⟨F, hI⟩ := hI
  refine ⟨F.sx (by decide), fun n s e1 e2 e3 h1 h2 => ?_⟩
  obtain ⟨i, i1, i2, i3, i4, i5⟩ := hI n s e1 e2 e3 h1 h2
  obtain ⟨x1, x2⟩ := hx n s i i2 h2 ((F.1 30 1 (by decide)).trans e1) i3 ((F.1 30 3 (by decide)).trans e3) i1 (F.1 18 i (by omega))
  have e : tk_r tk_di (S.1 18) n s = i := by rw [← i4]; exact tk_rn x1
  rw [e]
  exact ⟨by rw [ex_sx_ne (by decide), i3], by rw [ex_sx_eq, x2], by rw [ex_sx_ne (by decide), i5]⟩
theorem ec20 : es20 cc20 := by
  refine ev20 (I5 := ci20) ?_ ?_ ?_ ?_ ?_ ?_ ?_
  · intro S
    refine ⟨(ex_fx.refl _ S).sx (by decide), fun n s e1 e2 e3 h1 h2 => ⟨s, Nat.le_refl _, h1, ?_, rfl, ?_⟩⟩
    · rw [ex_sx_ne (by decide), e2]
    · rw [ex_sx_eq]; unfold tk_dv; rw [if_pos rfl]
  · intro S T hI c1 c2
    refine ci20_out (k := 4) hI (fun n s i hi hn t1 t2 t3 hs _ => ?_)
    rw [t1, t2, n32_le (by omega) (by omega)] at c1
    rw [t2, t3, n32_sub hs, show (2 : Int32) = Int32.ofNat 2 from rfl, n32_lt (by omega) (by omega)] at c2
    exact ⟨fun z => absurd z.1 (by omega), by rw [if_neg (by omega)]⟩
  · intro S T hI c1 c2
    refine ci20_out (k := 2) hI (fun n s i hi hn t1 t2 t3 hs _ => ?_)
    rw [t1, t2, n32_le (by omega) (by omega)] at c1
    rw [t2, t3, n32_sub hs, show (2 : Int32) = Int32.ofNat 2 from rfl, n32_lt (by omega) (by omega)] at c2
    exact ⟨fun z => absurd z.1 (by omega), by rw [if_pos (by omega)]⟩
  · intro S T hI c1 c c2
    refine ci20_out (k := 4) hI (fun n s i hi hn t1 t2 t3 hs t4 => ?_)
    rw [t2, n32_tn (by omega), t4, vf19_0] at c
    rw [t2, t3, n32_sub hs, show (2 : Int32) = Int32.ofNat 2 from rfl, n32_lt (by omega) (by omega)] at c2
    exact ⟨fun z => absurd z.2 c, by rw [if_neg (by omega)]⟩
  · intro S T hI c1 c c2
    refine ci20_out (k := 2) hI (fun n s i hi hn t1 t2 t3 hs t4 => ?_)
    rw [t2, n32_tn (by omega), t4, vf19_0] at c
    rw [t2, t3, n32_sub hs, show (2 : Int32) = Int32.ofNat 2 from rfl, n32_lt (by omega) (by omega)] at c2
    exact ⟨fun z => absurd z.2 c, by rw [if_pos (by omega)]⟩
  · intro S T hI c1 c c2
    obtain ⟨F, hI⟩ := hI
    refine ⟨F.sx (by decide), fun n s e1 e2 e3 h1 h2 => ?_⟩
    obtain ⟨i, i1, i2, i3, i4, i5⟩ := hI n s e1 e2 e3 h1 h2
    have t1 : T.1 30 1 = Int32.ofNat n := (F.1 30 1 (by decide)).trans e1
    have t3 : T.1 30 3 = Int32.ofNat s := (F.1 30 3 (by decide)).trans e3
    have t4 : T.1 18 i = S.1 18 i := F.1 18 i (by omega)
    rw [t1, i3, n32_le (by omega) (by omega)] at c1
    rw [i3, n32_tn (by omega), t4, vf19_0, Classical.not_not] at c
    rw [i3, t3, n32_sub i1, show (2 : Int32) = Int32.ofNat 2 from rfl, n32_le (by omega) (by omega)] at c2
    refine ⟨i + 1, by omega, by omega, ?_, ?_, ?_⟩
    · rw [ex_sx_eq, i3, n32_s]
    · rw [← i4, tk_ry (by omega) c]
    · rw [ex_sx_ne (by decide), i5]; unfold tk_dv
      rw [if_neg (by omega), if_neg (by omega), if_neg (by omega), if_neg (by omega)]
  · intro S T hI c1 c c2
    obtain ⟨F, hI⟩ := hI
    refine ⟨(F.sx (by decide)).sx (by decide), fun n s e1 e2 e3 h1 h2 => ?_⟩
    obtain ⟨i, i1, i2, i3, i4, i5⟩ := hI n s e1 e2 e3 h1 h2
    have t1 : T.1 30 1 = Int32.ofNat n := (F.1 30 1 (by decide)).trans e1
    have t3 : T.1 30 3 = Int32.ofNat s := (F.1 30 3 (by decide)).trans e3
    have t4 : T.1 18 i = S.1 18 i := F.1 18 i (by omega)
    rw [t1, i3, n32_le (by omega) (by omega)] at c1
    rw [i3, n32_tn (by omega), t4, vf19_0, Classical.not_not] at c
    rw [i3, t3, n32_sub i1, show (2 : Int32) = Int32.ofNat 2 from rfl, n32_le (by omega) (by omega)] at c2
    refine ⟨i + 1, by omega, by omega, ?_, ?_, ?_⟩
    · rw [ex_sx_eq, i3, n32_s]
    · rw [← i4, tk_ry (by omega) c]
    · rw [ex_sx_ne (by decide), ex_sx_eq, i3, n32_tn (by omega), t4, i5]
      unfold tk_dv
      by_cases hi : i = s
      · subst hi; rw [if_pos rfl, if_neg (by omega), if_pos rfl]
      · have : i = s + 1 := by omega
        subst this
        rw [if_neg hi, if_pos rfl, if_neg (by omega), if_neg (by omega)]
/-- where the class stands on its tape -/
def tc_at (S : ex_S) (n b : Nat) : Prop := S.1 30 1 = Int32.ofNat n ∧ S.1 30 2 = Int32.ofNat b ∧ b ≤ n ∧ n ≤ 600
def cc16 (S S_q : ex_S) : Prop := ex_fx (fun a k => a = 30 ∧ 2 ≤ k) S S_q ∧ ∀ n b, tc_at S n b → S_q.1 30 3 = Int32.ofNat (tk_s (S.1 18) n b) ∧ S_q.1 30 2 = Int32.ofNat (tk_e (S.1 18) n b) ∧ S_q.1 30 4 = Int32.ofNat (tk_k (S.1 18) n b) ∧ (tk_k (S.1 18) n b = 2 → S_q.1 30 5 = tk_v (S.1 18) n b)
def ci16 (S T : ex_S) : Prop := ex_fx (fun a k => a = 30 ∧ 2 ≤ k) S T ∧ ∀ n b, tc_at S n b → ∃ i, b ≤ i ∧ i ≤ n ∧ T.1 30 3 = Int32.ofNat i ∧ tk_r tk_bl (S.1 18) n i = tk_s (S.1 18) n b
def cj16 (S T : ex_S) : Prop := ex_fx (fun a k => a = 30 ∧ 2 ≤ k) S T ∧ ∀ n b, tc_at S n b → tk_s (S.1 18) n b < n ∧ tk_le (S.1 18 (tk_s (S.1 18) n b)) = true ∧ T.1 30 3 = Int32.ofNat (tk_s (S.1 18) n b) ∧ ∃ i, tk_s (S.1 18) n b ≤ i ∧ i ≤ n ∧ T.1 30 2 = Int32.ofNat i ∧ tk_r tk_le (S.1 18) n i = tk_r tk_le (S.1 18) n (tk_s (S.1 18) n b)
/-- behind the blanks -/
theorem ci16_s {S T : ex_S} (hI : ci16 S T) (hx : ∀ n i : Nat, i ≤ n → n ≤ 600 → T.1 30 1 = Int32.ofNat n → T.1 30 3 = Int32.ofNat i → T.1 18 i = S.1 18 i → ¬ (i < n ∧ tk_bl (S.1 18 i) = true)) {n b : Nat} (hb : tc_at S n b) : T.1 30 1 = Int32.ofNat n ∧ T.1 30 3 = Int32.ofNat (tk_s (S.1 18) n b) ∧ tk_s (S.1 18) n b ≤ n ∧ n ≤ 600 ∧ T.1 18 (tk_s (S.1 18) n b) = S.1 18 (tk_s (S.1 18) n b) := by
  obtain ⟨F, hI⟩ := hI
  obtain ⟨i, i1, i2, i3, i4⟩ := hI n b hb
  have t1 : T.1 30 1 = Int32.ofNat n := (F.1 30 1 (by decide)).trans hb.1
  have e : tk_s (S.1 18) n b = i := by rw [← i4]; exact tk_rn (hx n i i2 hb.2.2.2 t1 i3 (F.1 18 i (by omega)))
  rw [e]; exact ⟨t1, i3, i2, hb.2.2.2, F.1 18 i (by omega)⟩
theorem ec16 : es16 cc16 := by
  have X0 : ∀ S T : ex_S, T.1 30 1 ≤ T.1 30 3 → ∀ n i : Nat, i ≤ n → n ≤ 600 → T.1 30 1 = Int32.ofNat n → T.1 30 3 = Int32.ofNat i → T.1 18 i = S.1 18 i → ¬ (i < n ∧ tk_bl (S.1 18 i) = true) := by
    intro S T c n i hi hn t1 t3 _ z
    rw [t1, t3, n32_le (by omega) (by omega)] at c; omega
  have X1 : ∀ S T : ex_S, vf17 (T.1 18 ((T.1 30 3).toNatClampNeg)) = 0 → ∀ n i : Nat, i ≤ n → n ≤ 600 → T.1 30 1 = Int32.ofNat n → T.1 30 3 = Int32.ofNat i → T.1 18 i = S.1 18 i → ¬ (i < n ∧ tk_bl (S.1 18 i) = true) := by
    intro S T c n i hi hn t1 t3 t4 z
    rw [t3, n32_tn (by omega), t4, vf17_0] at c; exact c z.2
  refine ev16 (I8 := ci16) (I89 := cj16) ec20 ?_ ?_ ?_ ?_ ?_ ?_ ?_ ?_ ?_ ?_
  · intro S
    refine ⟨(ex_fx.refl _ S).sx (by decide), fun n b hb => ⟨b, Nat.le_refl _, hb.2.2.1, ?_, rfl⟩⟩
    rw [ex_sx_eq, hb.2.1]
  · intro S T hI c1
    refine ⟨(hI.1.sx (by decide)).sx (by decide), fun n b hb => ?_⟩
    obtain ⟨t1, t3, hs, hn, t4⟩ := ci16_s hI (X0 S T c1) hb
    rw [t1, t3, n32_le (by omega) (by omega)] at c1
    have ns : ¬ tk_s (S.1 18) n b < n := by omega
    have k0 : tk_k (S.1 18) n b = 0 := by unfold tk_k; rw [if_neg ns]
    refine ⟨by rw [ex_sx_ne (by decide), ex_sx_ne (by decide), t3], ?_, by rw [ex_sx_eq, k0]; rfl, fun z => absurd z (by omega)⟩
    rw [ex_sx_ne (by decide), ex_sx_eq, t3]; unfold tk_e; rw [if_neg ns]
  · intro S T hI c1 c2 c3 c4 c5
    refine ⟨((hI.1.sx (by decide)).sx (by decide)).sx (by decide), fun n b hb => ?_⟩
    obtain ⟨t1, t3, hs, hn, t4⟩ := ci16_s hI (X1 S T c2) hb
    rw [t1, t3, n32_le (by omega) (by omega)] at c1
    rw [t3, n32_tn (by omega), t4, vf18_0] at c3
    rw [t3, n32_tn (by omega), t4, vf19_0] at c4
    rw [t3, n32_tn (by omega), t4] at c5
    have ns : tk_s (S.1 18) n b < n := by omega
    have k0 : tk_k (S.1 18) n b = 4 := by unfold tk_k; rw [if_pos ns, if_neg c3, if_neg c4, if_neg c5]
    refine ⟨by rw [ex_sx_ne (by decide), ex_sx_ne (by decide), ex_sx_ne (by decide), t3], ?_, by rw [ex_sx_ne (by decide), ex_sx_eq, k0]; rfl, fun z => absurd z (by omega)⟩
    rw [ex_sx_eq, t3, n32_s]; unfold tk_e; rw [if_pos ns, if_neg c3, if_neg c4]
  · intro S T hI c1 c2 c3 c4 c5
    refine ⟨((hI.1.sx (by decide)).sx (by decide)).sx (by decide), fun n b hb => ?_⟩
    obtain ⟨t1, t3, hs, hn, t4⟩ := ci16_s hI (X1 S T c2) hb
    rw [t1, t3, n32_le (by omega) (by omega)] at c1
    rw [t3, n32_tn (by omega), t4, vf18_0] at c3
    rw [t3, n32_tn (by omega), t4, vf19_0] at c4
    rw [t3, n32_tn (by omega), t4, Classical.not_not] at c5
    have ns : tk_s (S.1 18) n b < n := by omega
    have k0 : tk_k (S.1 18) n b = 3 := by unfold tk_k; rw [if_pos ns, if_neg c3, if_neg c4, if_pos c5]
    refine ⟨by rw [ex_sx_ne (by decide), ex_sx_ne (by decide), ex_sx_ne (by decide), t3], ?_, by rw [ex_sx_ne (by decide), ex_sx_eq, k0]; rfl, fun z => absurd z (by omega)⟩
    rw [ex_sx_eq, t3, n32_s]; unfold tk_e; rw [if_pos ns, if_neg c3, if_neg c4]
  · intro S T hI c1 c2 c3 c4 U hU
    obtain ⟨G, hU⟩ := hU
    refine ⟨(hI.1.sx (a := 30) (k := 2) (by decide)).trans (G.mono (fun a k z => by omega)), fun n b hb => ?_⟩
    obtain ⟨t1, t3, hs, hn, t4⟩ := ci16_s hI (X1 S T c2) hb
    rw [t1, t3, n32_le (by omega) (by omega)] at c1
    rw [t3, n32_tn (by omega), t4, vf18_0] at c3
    rw [t3, n32_tn (by omega), t4, vf19_0, Classical.not_not] at c4
    have ns : tk_s (S.1 18) n b < n := by omega
    have e18 : (ex_sx T 30 2 (T.1 30 3)).1 18 = S.1 18 := by
      funext j; rw [ex_sx_ne (by omega)]; exact hI.1.1 18 j (by omega)
    obtain ⟨u1, u2, u3⟩ := hU n (tk_s (S.1 18) n b) (by rw [ex_sx_ne (by decide), t1]) (by rw [ex_sx_eq, t3]) (by rw [ex_sx_ne (by decide), t3]) hs hn
    rw [e18] at u1 u2 u3
    refine ⟨?_, ?_, ?_, fun _ => ?_⟩
    · rw [G.1 30 3 (by decide), ex_sx_ne (by decide), t3]
    · rw [u1]; unfold tk_e; rw [if_pos ns, if_neg c3, if_pos c4]
    · rw [u2]; unfold tk_k; rw [if_pos ns, if_neg c3, if_pos c4]
    · rw [u3]; rfl
  · intro S T hI c1 c2 c3
    refine ⟨hI.1.sx (by decide), fun n b hb => ?_⟩
    obtain ⟨t1, t3, hs, hn, t4⟩ := ci16_s hI (X1 S T c2) hb
    rw [t1, t3, n32_le (by omega) (by omega)] at c1
    rw [t3, n32_tn (by omega), t4, vf18_0, Classical.not_not] at c3
    exact ⟨by omega, c3, by rw [ex_sx_ne (by decide), t3], _, Nat.le_refl _, hs, by rw [ex_sx_eq, t3], rfl⟩
  · intro S T hI c1 c2
    obtain ⟨F, hI⟩ := hI
    refine ⟨F.sx (by decide), fun n b hb => ?_⟩
    obtain ⟨i, i1, i2, i3, i4⟩ := hI n b hb
    have hn := hb.2.2.2
    have t1 : T.1 30 1 = Int32.ofNat n := (F.1 30 1 (by decide)).trans hb.1
    have t4 : T.1 18 i = S.1 18 i := F.1 18 i (by omega)
    rw [t1, i3, n32_le (by omega) (by omega)] at c1
    rw [i3, n32_tn (by omega), t4, vf17_0, Classical.not_not] at c2
    exact ⟨i + 1, by omega, by omega, by rw [ex_sx_eq, i3, n32_s], by rw [← i4, tk_ry (by omega) c2]⟩
  · intro S T hI c1
    obtain ⟨F, hI⟩ := hI
    refine ⟨F.sx (by decide), fun n b hb => ?_⟩
    obtain ⟨ns, hl, t3, i, i1, i2, i3, i4⟩ := hI n b hb
    have hn := hb.2.2.2
    have t1 : T.1 30 1 = Int32.ofNat n := (F.1 30 1 (by decide)).trans hb.1
    rw [t1, i3, n32_le (by omega) (by omega)] at c1
    have e : tk_r tk_le (S.1 18) n (tk_s (S.1 18) n b) = i := by rw [← i4]; exact tk_rn (fun z => absurd z.1 (by omega))
    have k0 : tk_k (S.1 18) n b = 1 := by unfold tk_k; rw [if_pos ns, if_pos hl]
    refine ⟨by rw [ex_sx_ne (by decide), t3], ?_, by rw [ex_sx_eq, k0]; rfl, fun z => absurd z (by omega)⟩
    rw [ex_sx_ne (by decide), i3]; unfold tk_e; rw [if_pos ns, if_pos hl, e]
  · intro S T hI c1 c2
    obtain ⟨F, hI⟩ := hI
    refine ⟨F.sx (by decide), fun n b hb => ?_⟩
    obtain ⟨ns, hl, t3, i, i1, i2, i3, i4⟩ := hI n b hb
    have hn := hb.2.2.2
    have t4 : T.1 18 i = S.1 18 i := F.1 18 i (by omega)
    rw [i3, n32_tn (by omega), t4, vf18_0] at c2
    have e : tk_r tk_le (S.1 18) n (tk_s (S.1 18) n b) = i := by rw [← i4]; exact tk_rn (fun z => absurd z.2 c2)
    have k0 : tk_k (S.1 18) n b = 1 := by unfold tk_k; rw [if_pos ns, if_pos hl]
    refine ⟨by rw [ex_sx_ne (by decide), t3], ?_, by rw [ex_sx_eq, k0]; rfl, fun z => absurd z (by omega)⟩
    rw [ex_sx_ne (by decide), i3]; unfold tk_e; rw [if_pos ns, if_pos hl, e]
  · intro S T hI c1 c2
    obtain ⟨F, hI⟩ := hI
    refine ⟨F.sx (by decide), fun n b hb => ?_⟩
    obtain ⟨ns, hl, t3, i, i1, i2, i3, i4⟩ := hI n b hb
    have hn := hb.2.2.2
    have t1 : T.1 30 1 = Int32.ofNat n := (F.1 30 1 (by decide)).trans hb.1
    have t4 : T.1 18 i = S.1 18 i := F.1 18 i (by omega)
    rw [t1, i3, n32_le (by omega) (by omega)] at c1
    rw [i3, n32_tn (by omega), t4, vf18_0, Classical.not_not] at c2
    exact ⟨ns, hl, by rw [ex_sx_ne (by decide), t3], i + 1, by omega, by omega, by rw [ex_sx_eq, i3, n32_s], by rw [← i4, tk_ry (by omega) c2]⟩
end
section
/-! THE REFERENCE'S TOKENS -/
theorem by_all : ∀ k : Fin 256, ((Int32.ofInt ((k.val : Int) - 128) &&& 255 = 10 ↔ Int32.ofInt ((k.val : Int) - 128) = 10) ∧ (Int32.ofInt ((k.val : Int) - 128) &&& 255 = 32 ↔ Int32.ofInt ((k.val : Int) - 128) = 32) ∧ (Int32.ofInt ((k.val : Int) - 128) &&& 255 = 59 ↔ Int32.ofInt ((k.val : Int) - 128) = 59) ∧ (97 ≤ Int32.ofInt ((k.val : Int) - 128) &&& 255 ∧ Int32.ofInt ((k.val : Int) - 128) &&& 255 ≤ 122 ↔ 97 ≤ Int32.ofInt ((k.val : Int) - 128) ∧ Int32.ofInt ((k.val : Int) - 128) ≤ 122) ∧ (48 ≤ Int32.ofInt ((k.val : Int) - 128) &&& 255 ∧ Int32.ofInt ((k.val : Int) - 128) &&& 255 ≤ 57 ↔ 48 ≤ Int32.ofInt ((k.val : Int) - 128) ∧ Int32.ofInt ((k.val : Int) - 128) ≤ 57) ∧ 0 ≤ Int32.ofInt ((k.val : Int) - 128) &&& 255 ∧ (0 ≤ Int32.ofInt ((k.val : Int) - 128) → Int32.ofInt ((k.val : Int) - 128) &&& 255 = Int32.ofInt ((k.val : Int) - 128))) := by decide +kernel
theorem by_and {x : Int32} (hx : sf_B (-128) 127 x) : (x &&& 255 = 10 ↔ x = 10) ∧ (x &&& 255 = 32 ↔ x = 32) ∧ (x &&& 255 = 59 ↔ x = 59) ∧ (97 ≤ x &&& 255 ∧ x &&& 255 ≤ 122 ↔ 97 ≤ x ∧ x ≤ 122) ∧ (48 ≤ x &&& 255 ∧ x &&& 255 ≤ 57 ↔ 48 ≤ x ∧ x ≤ 57) ∧ 0 ≤ x &&& 255 ∧ (0 ≤ x → x &&& 255 = x) := by
  obtain ⟨h1, h2⟩ := hx
  have e : x = Int32.ofInt ((((⟨(x.toInt + 128).toNat, by omega⟩ : Fin 256).val : Nat) : Int) - 128) := by
    rw [← Int32.toInt_inj]
    show x.toInt = (Int32.ofInt (((x.toInt + 128).toNat : Int) - 128)).toInt
    rw [show (((x.toInt + 128).toNat : Nat) : Int) - 128 = x.toInt by omega, Int32.ofInt_toInt]
  rw [e]
  exact by_all _
/-- numbers of a view but those of P stay; of the longs the word alone -/
def ex_fw (P : Nat → Nat → Prop) (S S_q : ex_S) : Prop := (∀ a k, ¬ P a k → S_q.1 a k = S.1 a k) ∧ (∀ a k, ¬ (a = 41 ∧ k = 15) → S_q.2.1 a k = S.2.1 a k) ∧ S_q.2.2 = S.2.2
theorem ex_fw.refl (P : Nat → Nat → Prop) (S : ex_S) : ex_fw P S S := ⟨fun _ _ _ => rfl, fun _ _ _ => rfl, rfl⟩
theorem ex_fw.sx {P : Nat → Nat → Prop} {S T : ex_S} {a k : Nat} {v : Int32} (h : ex_fw P S T) (hP : P a k) : ex_fw P S (ex_sx T a k v) := by
  refine ⟨fun b j hb => ?_, h.2.1, h.2.2⟩
  show (if b = a ∧ j = k then v else T.1 b j) = _
  rw [if_neg (fun z => hb (by rw [z.1, z.2]; exact hP))]; exact h.1 b j hb
theorem ex_fw.sy {P : Nat → Nat → Prop} {S T : ex_S} {v : Int64} (h : ex_fw P S T) : ex_fw P S (ex_sy T 41 15 v) := by
  refine ⟨h.1, fun b j hb => ?_, h.2.2⟩
  show (if b = 41 ∧ j = 15 then v else T.2.1 b j) = _
  rw [if_neg hb]; exact h.2.1 b j hb
theorem ex_fw.trans {P : Nat → Nat → Prop} {S T U : ex_S} (h : ex_fw P S T) (g : ex_fw P T U) : ex_fw P S U := ⟨fun a k hk => (g.1 a k hk).trans (h.1 a k hk), fun a k hk => (g.2.1 a k hk).trans (h.2.1 a k hk), g.2.2.trans h.2.2⟩
theorem ex_fw.mono {P P' : Nat → Nat → Prop} {S T : ex_S} (h : ex_fw P S T) (hP : ∀ a k, P a k → P' a k) : ex_fw P' S T := ⟨fun a k hk => h.1 a k (fun z => hk (hP a k z)), h.2⟩
theorem ex_sy_1 {S : ex_S} {a k : Nat} {v : Int64} : (ex_sy S a k v).1 = S.1 := rfl
theorem ex_sy_eq {S : ex_S} {a k : Nat} {v : Int64} : (ex_sy S a k v).2.1 a k = v := if_pos ⟨rfl, rfl⟩
theorem ex_sx_2 {S : ex_S} {a k : Nat} {v : Int32} : (ex_sx S a k v).2 = S.2 := rfl
/-- where the reference stands on its tape; the tape holds bytes -/
def tr_at (S : ex_S) (n b : Nat) : Prop := S.1 41 11 = Int32.ofNat n ∧ S.1 41 10 = Int32.ofNat b ∧ b ≤ n ∧ n ≤ 600 ∧ ∀ i, sf_B (-128) 127 (S.1 42 i)
theorem see_at {S T : ex_S} {n i : Nat} (hn : n ≤ 600) (hi : i ≤ n) (t1 : T.1 41 11 = Int32.ofNat n) (t2 : T.1 41 10 = Int32.ofNat i) (t3 : T.1 42 i = S.1 42 i) : vf180 T = if i < n then S.1 42 i &&& 255 else -1 := by
  unfold vf180
  rw [t1, t2, n32_tn (by omega), t3]
  by_cases h : i < n
  · rw [if_pos h, if_neg (fun z => absurd ((n32_le (by omega) (by omega)).mp z) (by omega))]
  · rw [if_neg h, if_pos ((n32_le (by omega) (by omega)).mpr (by omega))]
theorem see_10 {x : Int32} {c : Prop} [Decidable c] (hx : sf_B (-128) 127 x) : ((if c then x &&& 255 else -1 : Int32) = 10) ↔ c ∧ x = 10 := by
  by_cases h : c
  · rw [if_pos h, (by_and hx).1]; exact ⟨fun z => ⟨h, z⟩, fun z => z.2⟩
  · rw [if_neg h]; exact ⟨fun z => absurd z (by decide), fun z => absurd z.1 h⟩
theorem see_32 {x : Int32} {c : Prop} [Decidable c] (hx : sf_B (-128) 127 x) : ((if c then x &&& 255 else -1 : Int32) = 32) ↔ c ∧ x = 32 := by
  by_cases h : c
  · rw [if_pos h, (by_and hx).2.1]; exact ⟨fun z => ⟨h, z⟩, fun z => z.2⟩
  · rw [if_neg h]; exact ⟨fun z => absurd z (by decide), fun z => absurd z.1 h⟩
theorem see_59 {x : Int32} {c : Prop} [Decidable c] (hx : sf_B (-128) 127 x) : ((if c then x &&& 255 else -1 : Int32) = 59) ↔ c ∧ x = 59 := by
  by_cases h : c
  · rw [if_pos h, (by_and hx).2.2.1]; exact ⟨fun z => ⟨h, z⟩, fun z => z.2⟩
  · rw [if_neg h]; exact ⟨fun z => absurd z (by decide), fun z => absurd z.1 h⟩
theorem see_le {x : Int32} {c : Prop} [Decidable c] (hx : sf_B (-128) 127 x) : (vf174 (if c then x &&& 255 else -1 : Int32) 97 122 = 0) ↔ ¬ (c ∧ tk_le x = true) := by
  unfold vf174 tk_le
  rw [vf_0, decide_eq_true_eq]
  by_cases h : c
  · rw [if_pos h, (by_and hx).2.2.2.1]; exact ⟨fun z w => z w.2, fun z w => z ⟨h, w⟩⟩
  · rw [if_neg h]; exact ⟨fun _ w => h w.1, fun _ w => absurd w.1 (by decide)⟩
theorem see_di {x : Int32} {c : Prop} [Decidable c] (hx : sf_B (-128) 127 x) : (vf174 (if c then x &&& 255 else -1 : Int32) 48 57 = 0) ↔ ¬ (c ∧ tk_di x = true) := by
  unfold vf174 tk_di
  rw [vf_0, decide_eq_true_eq]
  by_cases h : c
  · rw [if_pos h, (by_and hx).2.2.2.2.1]; exact ⟨fun z w => z w.2, fun z w => z ⟨h, w⟩⟩
  · rw [if_neg h]; exact ⟨fun _ w => h w.1, fun _ w => absurd w.1 (by decide)⟩
theorem see_0 {x : Int32} {c : Prop} [Decidable c] (hx : sf_B (-128) 127 x) : (0 ≤ (if c then x &&& 255 else -1 : Int32)) ↔ c := by
  by_cases h : c
  · rw [if_pos h]; exact ⟨fun _ => h, fun _ => (by_and hx).2.2.2.2.2.1⟩
  · rw [if_neg h]; exact ⟨fun z => absurd z (by decide), fun z => absurd z h⟩
theorem see_v {x : Int32} {c : Prop} [Decidable c] (hx : sf_B (-128) 127 x) (h : c) (h0 : 0 ≤ x) : (if c then x &&& 255 else -1 : Int32) = x := by
  rw [if_pos h]; exact (by_and hx).2.2.2.2.2.2 h0
theorem tk_di_0 {x : Int32} (h : tk_di x = true) : 0 ≤ x := by
  unfold tk_di at h; rw [decide_eq_true_eq] at h
  have := Int32.le_iff_toInt_le.mp h.1
  exact Int32.le_iff_toInt_le.mpr (Int.le_trans (by decide) this)
theorem tk_le_0 {x : Int32} (h : tk_le x = true) : 0 ≤ x := by
  unfold tk_le at h; rw [decide_eq_true_eq] at h
  have := Int32.le_iff_toInt_le.mp h.1
  exact Int32.le_iff_toInt_le.mpr (Int.le_trans (by decide) this)
def rp179 (a k : Nat) : Prop := a = 41 ∧ (k = 10 ∨ k = 12 ∨ k = 13 ∨ k = 14)
def rc179 (S S_q : ex_S) : Prop := ex_fw rp179 S S_q ∧ ∀ n b, tr_at S n b → S_q.1 41 12 = Int32.ofNat (tk_s (S.1 42) n b) ∧ S_q.1 41 10 = Int32.ofNat (tk_e (S.1 42) n b) ∧ S_q.1 41 13 = tk_rk (tk_k (S.1 42) n b) ∧ (tk_k (S.1 42) n b = 2 → S_q.1 41 14 = tk_v (S.1 42) n b) ∧ (tk_k (S.1 42) n b = 1 → S_q.2.1 41 15 = tk_p (S.1 42) n b)
def ri179 (S T : ex_S) : Prop := ex_fw rp179 S T ∧ ∀ n b, tr_at S n b → ∃ i, b ≤ i ∧ i ≤ n ∧ T.1 41 10 = Int32.ofNat i ∧ tk_r tk_bl (S.1 42) n i = tk_s (S.1 42) n b
/-- in a word -/
def rj179 (S : ex_S) (x : Int32) (T : ex_S) : Prop := ex_fw rp179 S T ∧ ∀ n b, tr_at S n b → tk_s (S.1 42) n b < n ∧ tk_le (S.1 42 (tk_s (S.1 42) n b)) = true ∧ T.1 41 12 = Int32.ofNat (tk_s (S.1 42) n b) ∧ ∃ i, tk_s (S.1 42) n b ≤ i ∧ i ≤ n ∧ T.1 41 10 = Int32.ofNat i ∧ tk_r tk_le (S.1 42) n i = tk_r tk_le (S.1 42) n (tk_s (S.1 42) n b) ∧ x = Int32.ofNat (i - tk_s (S.1 42) n b) ∧ T.2.1 41 15 = tk_pf (S.1 42) (tk_s (S.1 42) n b) (i - tk_s (S.1 42) n b)
/-- in a row of digits -/
def rl179 (S : ex_S) (x : Int32) (T : ex_S) : Prop := ex_fw rp179 S T ∧ ∀ n b, tr_at S n b → tk_s (S.1 42) n b < n ∧ ¬ tk_le (S.1 42 (tk_s (S.1 42) n b)) = true ∧ tk_di (S.1 42 (tk_s (S.1 42) n b)) = true ∧ T.1 41 12 = Int32.ofNat (tk_s (S.1 42) n b) ∧ ∃ i, tk_s (S.1 42) n b ≤ i ∧ i ≤ n ∧ T.1 41 10 = Int32.ofNat i ∧ tk_r tk_di (S.1 42) n i = tk_r tk_di (S.1 42) n (tk_s (S.1 42) n b) ∧ x = Int32.ofNat (i - tk_s (S.1 42) n b) ∧ T.1 41 14 = tk_dv (S.1 42) (tk_s (S.1 42) n b) i
theorem ri179_s {S T : ex_S} (hI : ri179 S T) (c1 : ¬ vf180 T = 10) (c2 : ¬ vf180 T = 32) {n b : Nat} (hb : tr_at S n b) : T.1 41 11 = Int32.ofNat n ∧ T.1 41 10 = Int32.ofNat (tk_s (S.1 42) n b) ∧ tk_s (S.1 42) n b ≤ n ∧ n ≤ 600 ∧ (∀ i, T.1 42 i = S.1 42 i) ∧ vf180 (ex_sx T 41 12 (T.1 41 10)) = (if tk_s (S.1 42) n b < n then S.1 42 (tk_s (S.1 42) n b) &&& 255 else -1) ∧ sf_B (-128) 127 (S.1 42 (tk_s (S.1 42) n b)) := by
  obtain ⟨F, hI⟩ := hI
  obtain ⟨i, i1, i2, i3, i4⟩ := hI n b hb
  have hn := hb.2.2.2.1
  have t1 : T.1 41 11 = Int32.ofNat n := (F.1 41 11 (by unfold rp179; decide)).trans hb.1
  have t4 : ∀ j, T.1 42 j = S.1 42 j := fun j => F.1 42 j (by unfold rp179; omega)
  have hx := hb.2.2.2.2 i
  have e := see_at (S := S) hn i2 t1 i3 (t4 i)
  rw [e, see_10 hx] at c1
  rw [e, see_32 hx] at c2
  have es : tk_s (S.1 42) n b = i := by
    rw [← i4]
    refine tk_rn (fun z => ?_)
    have z2 := z.2
    unfold tk_bl at z2
    rw [decide_eq_true_eq] at z2
    rcases z2 with z2 | z2
    · exact c1 ⟨z.1, z2⟩
    · exact c2 ⟨z.1, z2⟩
  rw [es]
  exact ⟨t1, i3, i2, hn, t4, see_at (S := S) (T := ex_sx T 41 12 (T.1 41 10)) hn i2 t1 i3 (t4 i), hx⟩
theorem ec179 : es179 rc179 := by
  refine ev179 (I0 := ri179) (I74 := rj179) (I163 := rl179) ?_ ?_ ?_ ?_ ?_ ?_ ?_ ?_ ?_ ?_ ?_ ?_ ?_ ?_ ?_
  · intro S
    exact ⟨ex_fw.refl _ S, fun n b hb => ⟨b, Nat.le_refl _, hb.2.2.1, hb.2.1, rfl⟩⟩
  · intro S T hI c
    obtain ⟨F, hI⟩ := hI
    refine ⟨F.sx (by unfold rp179; decide), fun n b hb => ?_⟩
    obtain ⟨i, i1, i2, i3, i4⟩ := hI n b hb
    have hn := hb.2.2.2.1
    have t1 : T.1 41 11 = Int32.ofNat n := (F.1 41 11 (by unfold rp179; decide)).trans hb.1
    have t4 : ∀ j, T.1 42 j = S.1 42 j := fun j => F.1 42 j (by unfold rp179; omega)
    rw [see_at (S := S) hn i2 t1 i3 (t4 i), see_10 (hb.2.2.2.2 i)] at c
    refine ⟨i + 1, by omega, by omega, by rw [ex_sx_eq, i3, n32_s], ?_⟩
    rw [← i4, tk_ry c.1 (by rw [c.2]; decide)]
  · intro S T hI c1 c2 c3 c4 c5 c6
    refine ⟨(((hI.1.sx (by unfold rp179; decide)).sy).sx (by unfold rp179; decide)).sx (by unfold rp179; decide), fun n b hb => ?_⟩
    obtain ⟨t1, t2, hs, hn, t4, e, hx⟩ := ri179_s hI c1 c2 hb
    rw [e, see_0 hx] at c3
    rw [e, see_le hx] at c4
    rw [e, see_di hx] at c5
    rw [e, see_59 hx] at c6
    have k0 : tk_k (S.1 42) n b = 4 := by unfold tk_k; rw [if_pos c3, if_neg (fun z => c4 ⟨c3, z⟩), if_neg (fun z => c5 ⟨c3, z⟩), if_neg (fun z => c6 ⟨c3, z⟩)]
    refine ⟨t2, ?_, ?_, fun z => absurd z (by omega), fun z => absurd z (by omega)⟩
    · show T.1 41 10 + 1 = _
      rw [t2, n32_s]; unfold tk_e; rw [if_pos c3, if_neg (fun z => c4 ⟨c3, z⟩), if_neg (fun z => c5 ⟨c3, z⟩)]
    · show (1 : Int32) = _
      rw [k0]; rfl
  · intro S T hI c1 c2 c3 c4 c5 c6
    refine ⟨(((hI.1.sx (by unfold rp179; decide)).sy).sx (by unfold rp179; decide)).sx (by unfold rp179; decide), fun n b hb => ?_⟩
    obtain ⟨t1, t2, hs, hn, t4, e, hx⟩ := ri179_s hI c1 c2 hb
    rw [e, see_0 hx] at c3
    rw [e, see_le hx] at c4
    rw [e, see_di hx] at c5
    rw [e, see_59 hx, Classical.not_not] at c6
    have k0 : tk_k (S.1 42) n b = 3 := by unfold tk_k; rw [if_pos c3, if_neg (fun z => c4 ⟨c3, z⟩), if_neg (fun z => c5 ⟨c3, z⟩), if_pos c6.2]
    refine ⟨t2, ?_, ?_, fun z => absurd z (by omega), fun z => absurd z (by omega)⟩
    · show T.1 41 10 + 1 = _
      rw [t2, n32_s]; unfold tk_e; rw [if_pos c3, if_neg (fun z => c4 ⟨c3, z⟩), if_neg (fun z => c5 ⟨c3, z⟩)]
    · show (4 : Int32) = _
      rw [k0]; rfl
  · intro S T hI c1 c2 c3 c4 c5
    refine ⟨((hI.1.sx (by unfold rp179; decide)).sy).sx (by unfold rp179; decide), fun n b hb => ?_⟩
    obtain ⟨t1, t2, hs, hn, t4, e, hx⟩ := ri179_s hI c1 c2 hb
    rw [e, see_0 hx] at c3
    rw [e, see_le hx] at c4
    rw [e, see_di hx, Classical.not_not] at c5
    refine ⟨c3, fun z => c4 ⟨c3, z⟩, c5.2, t2, _, Nat.le_refl _, hs, t2, rfl, ?_, ?_⟩
    · rw [Nat.sub_self]; rfl
    · show (0 : Int32) = _
      unfold tk_dv; rw [if_pos rfl]
  · intro S T hI c1 c2 c3 c4
    refine ⟨(hI.1.sx (by unfold rp179; decide)).sy, fun n b hb => ?_⟩
    obtain ⟨t1, t2, hs, hn, t4, e, hx⟩ := ri179_s hI c1 c2 hb
    rw [e, see_0 hx] at c3
    rw [e, see_le hx, Classical.not_not] at c4
    refine ⟨c3, c4.2, t2, _, Nat.le_refl _, hs, t2, rfl, ?_, ?_⟩
    · rw [Nat.sub_self]; rfl
    · rw [Nat.sub_self, ex_sy_eq]; rfl
  · intro S T hI c1 c2 c3
    refine ⟨((hI.1.sx (by unfold rp179; decide)).sy).sx (by unfold rp179; decide), fun n b hb => ?_⟩
    obtain ⟨t1, t2, hs, hn, t4, e, hx⟩ := ri179_s hI c1 c2 hb
    rw [e, see_0 hx] at c3
    have k0 : tk_k (S.1 42) n b = 0 := by unfold tk_k; rw [if_neg c3]
    refine ⟨t2, ?_, ?_, fun z => absurd z (by omega), fun z => absurd z (by omega)⟩
    · show T.1 41 10 = _
      rw [t2]; unfold tk_e; rw [if_neg c3]
    · show (0 : Int32) = _
      rw [k0]; rfl
  · intro S T hI c1 c
    obtain ⟨F, hI⟩ := hI
    refine ⟨F.sx (by unfold rp179; decide), fun n b hb => ?_⟩
    obtain ⟨i, i1, i2, i3, i4⟩ := hI n b hb
    have hn := hb.2.2.2.1
    have t1 : T.1 41 11 = Int32.ofNat n := (F.1 41 11 (by unfold rp179; decide)).trans hb.1
    have t4 : ∀ j, T.1 42 j = S.1 42 j := fun j => F.1 42 j (by unfold rp179; omega)
    rw [see_at (S := S) hn i2 t1 i3 (t4 i), see_32 (hb.2.2.2.2 i), Classical.not_not] at c
    refine ⟨i + 1, by omega, by omega, by rw [ex_sx_eq, i3, n32_s], ?_⟩
    rw [← i4, tk_ry c.1 (by rw [c.2]; decide)]
  · intro S x T hI c1 c2
    obtain ⟨F, hI⟩ := hI
    refine ⟨F.sx (by unfold rp179; decide), fun n b hb => ?_⟩
    obtain ⟨ns, nl, hd, t3, i, i1, i2, i3, i4, i5, i6⟩ := hI n b hb
    have hn := hb.2.2.2.1
    have t1 : T.1 41 11 = Int32.ofNat n := (F.1 41 11 (by unfold rp179; decide)).trans hb.1
    have t4 : ∀ j, T.1 42 j = S.1 42 j := fun j => F.1 42 j (by unfold rp179; omega)
    rw [see_at (S := S) hn i2 t1 i3 (t4 i), see_di (hb.2.2.2.2 i)] at c1
    rw [i5, show (2 : Int32) = Int32.ofNat 2 from rfl, n32_le (by omega) (by omega)] at c2
    have e : tk_r tk_di (S.1 42) n (tk_s (S.1 42) n b) = i := by rw [← i4]; exact tk_rn c1
    have k0 : tk_k (S.1 42) n b = 2 := by unfold tk_k; rw [if_pos ns, if_neg nl, if_pos hd, e, if_pos (by omega)]
    refine ⟨t3, ?_, ?_, fun _ => ?_, fun z => absurd z (by omega)⟩
    · show T.1 41 10 = _
      rw [i3]; unfold tk_e; rw [if_pos ns, if_neg nl, if_pos hd, e]
    · show (3 : Int32) = _
      rw [k0]; rfl
    · show T.1 41 14 = _
      rw [i6]; unfold tk_v; rw [e]
  · intro S x T hI c1 c2
    obtain ⟨F, hI⟩ := hI
    refine ⟨F.sx (by unfold rp179; decide), fun n b hb => ?_⟩
    obtain ⟨ns, nl, hd, t3, i, i1, i2, i3, i4, i5, i6⟩ := hI n b hb
    have hn := hb.2.2.2.1
    have t1 : T.1 41 11 = Int32.ofNat n := (F.1 41 11 (by unfold rp179; decide)).trans hb.1
    have t4 : ∀ j, T.1 42 j = S.1 42 j := fun j => F.1 42 j (by unfold rp179; omega)
    rw [see_at (S := S) hn i2 t1 i3 (t4 i), see_di (hb.2.2.2.2 i)] at c1
    rw [i5, show (2 : Int32) = Int32.ofNat 2 from rfl, n32_le (by omega) (by omega)] at c2
    have e : tk_r tk_di (S.1 42) n (tk_s (S.1 42) n b) = i := by rw [← i4]; exact tk_rn c1
    have k0 : tk_k (S.1 42) n b = 4 := by unfold tk_k; rw [if_pos ns, if_neg nl, if_pos hd, e, if_neg (by omega)]
    refine ⟨t3, ?_, ?_, fun z => absurd z (by omega), fun z => absurd z (by omega)⟩
    · show T.1 41 10 = _
      rw [i3]; unfold tk_e; rw [if_pos ns, if_neg nl, if_pos hd, e]
    · show (1 : Int32) = _
      rw [k0]; rfl
  · intro S x T hI c1 c2
    obtain ⟨F, hI⟩ := hI
    refine ⟨(F.sx (by unfold rp179; decide)).sx (by unfold rp179; decide), fun n b hb => ?_⟩
    obtain ⟨ns, nl, hd, t3, i, i1, i2, i3, i4, i5, i6⟩ := hI n b hb
    have hn := hb.2.2.2.1
    have t1 : T.1 41 11 = Int32.ofNat n := (F.1 41 11 (by unfold rp179; decide)).trans hb.1
    have t4 : ∀ j, T.1 42 j = S.1 42 j := fun j => F.1 42 j (by unfold rp179; omega)
    rw [see_at (S := S) hn i2 t1 i3 (t4 i), see_di (hb.2.2.2.2 i), Classical.not_not] at c1
    rw [i5, show (2 : Int32) = Int32.ofNat 2 from rfl, n32_le (by omega) (by omega)] at c2
    refine ⟨ns, nl, hd, t3, i + 1, by omega, by omega, ?_, ?_, ?_, ?_⟩
    · show T.1 41 10 + 1 = _
      rw [i3, n32_s]
    · rw [← i4, tk_ry c1.1 c1.2]
    · rw [i5, n32_s]; congr 1; omega
    · show T.1 41 14 = _
      rw [i6]; unfold tk_dv
      rw [if_neg (by omega), if_neg (by omega), if_neg (by omega), if_neg (by omega)]
  · intro S x T hI c1 c2
    obtain ⟨F, hI⟩ := hI
    refine ⟨(F.sx (by unfold rp179; decide)).sx (by unfold rp179; decide), fun n b hb => ?_⟩
    obtain ⟨ns, nl, hd, t3, i, i1, i2, i3, i4, i5, i6⟩ := hI n b hb
    have hn := hb.2.2.2.1
    have t1 : T.1 41 11 = Int32.ofNat n := (F.1 41 11 (by unfold rp179; decide)).trans hb.1
    have t4 : ∀ j, T.1 42 j = S.1 42 j := fun j => F.1 42 j (by unfold rp179; omega)
    have es := see_at (S := S) hn i2 t1 i3 (t4 i)
    rw [es, see_di (hb.2.2.2.2 i), Classical.not_not] at c1
    rw [i5, show (2 : Int32) = Int32.ofNat 2 from rfl, n32_le (by omega) (by omega)] at c2
    refine ⟨ns, nl, hd, t3, i + 1, by omega, by omega, ?_, ?_, ?_, ?_⟩
    · show T.1 41 10 + 1 = _
      rw [i3, n32_s]
    · rw [← i4, tk_ry c1.1 c1.2]
    · rw [i5, n32_s]; congr 1; omega
    · show 10 * T.1 41 14 + vf180 T - 48 = _
      rw [es, see_v (hb.2.2.2.2 i) c1.1 (tk_di_0 c1.2), i6, Int32.mul_comm]
      unfold tk_dv
      by_cases hi : i = tk_s (S.1 42) n b
      · rw [← hi, if_pos rfl, if_neg (by omega), if_pos rfl]
      · have : i = tk_s (S.1 42) n b + 1 := by omega
        rw [this, if_neg (by omega), if_pos rfl, if_neg (by omega), if_neg (by omega)]
  · intro S x T hI c1 c2
    obtain ⟨F, hI⟩ := hI
    refine ⟨(F.sy).sx (by unfold rp179; decide), fun n b hb => ?_⟩
    obtain ⟨ns, hl, t3, i, i1, i2, i3, i4, i5, i6⟩ := hI n b hb
    have hn := hb.2.2.2.1
    have t1 : T.1 41 11 = Int32.ofNat n := (F.1 41 11 (by unfold rp179; decide)).trans hb.1
    have t4 : ∀ j, T.1 42 j = S.1 42 j := fun j => F.1 42 j (by unfold rp179; omega)
    rw [see_at (S := S) hn i2 t1 i3 (t4 i), see_le (hb.2.2.2.2 i)] at c1
    rw [i5, show (8 : Int32) = Int32.ofNat 8 from rfl, n32_le (by omega) (by omega)] at c2
    have e : tk_r tk_le (S.1 42) n (tk_s (S.1 42) n b) = i := by rw [← i4]; exact tk_rn c1
    have k0 : tk_k (S.1 42) n b = 1 := by unfold tk_k; rw [if_pos ns, if_pos hl]
    refine ⟨t3, ?_, ?_, fun z => absurd z (by omega), fun _ => ?_⟩
    · show T.1 41 10 = _
      rw [i3]; unfold tk_e; rw [if_pos ns, if_pos hl, e]
    · show (2 : Int32) = _
      rw [k0]; rfl
    · show T.2.1 41 15 = _
      rw [i6]; unfold tk_p; rw [e, if_pos (by omega)]
  · intro S x T hI c1 c2
    obtain ⟨F, hI⟩ := hI
    refine ⟨(F.sy).sx (by unfold rp179; decide), fun n b hb => ?_⟩
    obtain ⟨ns, hl, t3, i, i1, i2, i3, i4, i5, i6⟩ := hI n b hb
    have hn := hb.2.2.2.1
    have t1 : T.1 41 11 = Int32.ofNat n := (F.1 41 11 (by unfold rp179; decide)).trans hb.1
    have t4 : ∀ j, T.1 42 j = S.1 42 j := fun j => F.1 42 j (by unfold rp179; omega)
    rw [see_at (S := S) hn i2 t1 i3 (t4 i), see_le (hb.2.2.2.2 i)] at c1
    rw [i5, show (8 : Int32) = Int32.ofNat 8 from rfl, n32_le (by omega) (by omega)] at c2
    have e : tk_r tk_le (S.1 42) n (tk_s (S.1 42) n b) = i := by rw [← i4]; exact tk_rn c1
    have k0 : tk_k (S.1 42) n b = 1 := by unfold tk_k; rw [if_pos ns, if_pos hl]
    refine ⟨t3, ?_, ?_, fun z => absurd z (by omega), fun _ => ?_⟩
    · show T.1 41 10 = _
      rw [i3]; unfold tk_e; rw [if_pos ns, if_pos hl, e]
    · show (2 : Int32) = _
      rw [k0]; rfl
    · show (0 : Int64) = _
      unfold tk_p; rw [e, if_neg (by omega)]
  · intro S x T hI c1
    obtain ⟨F, hI⟩ := hI
    refine ⟨(F.sy).sx (by unfold rp179; decide), fun n b hb => ?_⟩
    obtain ⟨ns, hl, t3, i, i1, i2, i3, i4, i5, i6⟩ := hI n b hb
    have hn := hb.2.2.2.1
    have t1 : T.1 41 11 = Int32.ofNat n := (F.1 41 11 (by unfold rp179; decide)).trans hb.1
    have t4 : ∀ j, T.1 42 j = S.1 42 j := fun j => F.1 42 j (by unfold rp179; omega)
    have es := see_at (S := S) hn i2 t1 i3 (t4 i)
    rw [es, see_le (hb.2.2.2.2 i), Classical.not_not] at c1
    refine ⟨ns, hl, t3, i + 1, by omega, by omega, ?_, ?_, ?_, ?_⟩
    · show T.1 41 10 + 1 = _
      rw [i3, n32_s]
    · rw [← i4, tk_ry c1.1 c1.2]
    · rw [i5, n32_s]; congr 1; omega
    · show (T.2.1 41 15 <<< ((8 : Int32).toInt64 &&& 63)) ||| (vf180 T).toInt64 = _
      rw [es, see_v (hb.2.2.2.2 i) c1.1 (tk_le_0 c1.2), i6, show i + 1 - tk_s (S.1 42) n b = (i - tk_s (S.1 42) n b) + 1 by omega]
      show _ = (tk_pf _ _ _ <<< _) ||| (S.1 42 (tk_s (S.1 42) n b + (i - tk_s (S.1 42) n b))).toInt64
      rw [show tk_s (S.1 42) n b + (i - tk_s (S.1 42) n b) = i by omega]
end
section
/-! WORDS: letters packed into a long, and letters of a String constant -/
theorem tp_c : ∀ k : Fin 256, (Int32.ofNat k.val).toInt64.toBitVec.toNat = k.val := by decide +kernel
theorem tp_step {w : Int64} {c : Int32} (hw : w.toBitVec.toNat < 36028797018963968) (h0 : 0 ≤ c.toInt) (h1 : c.toInt < 256) : ((w <<< ((8 : Int32).toInt64 &&& 63)) ||| c.toInt64).toBitVec.toNat = w.toBitVec.toNat * 256 + c.toInt.toNat := by
  have ec : c = Int32.ofNat c.toInt.toNat := by
    rw [← Int32.toInt_inj, n32_i (by omega)]; omega
  have e2 : c.toInt64.toBitVec.toNat = c.toInt.toNat := by
    have := tp_c ⟨c.toInt.toNat, by omega⟩
    rw [ec]
    rw [n32_i (i := c.toInt.toNat) (by omega)]
    exact this
  have e : ((w <<< ((8 : Int32).toInt64 &&& 63)) ||| c.toInt64).toBitVec = (w.toBitVec <<< (8 : Nat)) ||| c.toInt64.toBitVec := rfl
  rw [e, BitVec.toNat_or, BitVec.toNat_shiftLeft, e2, Nat.shiftLeft_eq, Nat.mod_eq_of_lt (by omega), ← Nat.shiftLeft_eq, ← Nat.shiftLeft_add_eq_or_of_lt (i := 8) (by omega), Nat.shiftLeft_eq]
def tp_n (T : Nat → Int32) (s : Nat) : Nat → Nat
  | 0 => 0
  | k + 1 => tp_n T s k * 256 + (T (s + k)).toInt.toNat
theorem tp_lt {T : Nat → Int32} {s k : Nat} (hT : ∀ i, i < k → tk_le (T (s + i)) = true) : tp_n T s k < 256 ^ k := by
  induction k with
  | zero => show 0 < 1; decide
  | succ k ih =>
    have h1 := ih (fun i hi => hT i (by omega))
    have h2 := hT k (by omega)
    unfold tk_le at h2
    rw [decide_eq_true_eq] at h2
    have h3 := Int32.le_iff_toInt_le.mp h2.2
    have h4 : (T (s + k)).toInt ≤ 122 := h3
    show tp_n T s k * 256 + (T (s + k)).toInt.toNat < 256 ^ (k + 1)
    rw [Nat.pow_succ]; omega
theorem tk_le_b {x : Int32} (h : tk_le x = true) : 97 ≤ x.toInt ∧ x.toInt ≤ 122 := by
  unfold tk_le at h
  rw [decide_eq_true_eq] at h
  exact ⟨Int32.le_iff_toInt_le.mp h.1, Int32.le_iff_toInt_le.mp h.2⟩
theorem tp_lt2 {T : Nat → Int32} {s : Nat} : ∀ k : Nat, (∀ i, i < k + 1 → tk_le (T (s + i)) = true) → tp_n T s (k + 1) < 123 * 256 ^ k
  | 0, hT => by
    have := tk_le_b (hT 0 (by decide))
    show 0 * 256 + (T (s + 0)).toInt.toNat < 123 * 1
    omega
  | k + 1, hT => by
    have h1 := tp_lt2 k (fun i hi => hT i (by omega))
    have h2 := tk_le_b (hT (k + 1) (by omega))
    show tp_n T s (k + 1) * 256 + (T (s + (k + 1))).toInt.toNat < 123 * 256 ^ (k + 1)
    rw [Nat.pow_succ]; omega
theorem tp_f {T : Nat → Int32} {s k : Nat} (hk : k ≤ 8) (hT : ∀ i, i < k → tk_le (T (s + i)) = true) : (tk_pf T s k).toBitVec.toNat = tp_n T s k := by
  induction k with
  | zero => rfl
  | succ k ih =>
    have h1 := ih (by omega) (fun i hi => hT i (by omega))
    have h2 := tk_le_b (hT k (by omega))
    have h6 : tp_n T s k < 36028797018963968 := by
      cases k with
      | zero => show 0 < 36028797018963968; decide
      | succ j =>
        have a1 := tp_lt2 (T := T) (s := s) j (fun i hi => hT i (by omega))
        have a3 : 256 ^ j ≤ 256 ^ 6 := Nat.pow_le_pow_right (by decide) (by omega)
        have a4 : (256 : Nat) ^ 6 = 281474976710656 := by decide
        omega
    show ((tk_pf T s k <<< ((8 : Int32).toInt64 &&& 63)) ||| (T (s + k)).toInt64).toBitVec.toNat = tp_n T s k * 256 + (T (s + k)).toInt.toNat
    rw [tp_step (by rw [h1]; exact h6) (by omega) (by omega), h1]
theorem tp_inj {T B : Nat → Int32} {s f : Nat} : ∀ {k m : Nat}, (∀ i, i < k → tk_le (T (s + i)) = true) → (∀ i, i < m → tk_le (B (f + i)) = true) → tp_n T s k = tp_n B f m → k = m ∧ ∀ i, i < m → B (f + i) = T (s + i)
  | 0, 0, _, _, _ => ⟨rfl, fun i hi => absurd hi (by omega)⟩
  | 0, m + 1, _, hB, e => by
    have := tk_le_b (hB m (by omega))
    have e_q : 0 = tp_n B f m * 256 + (B (f + m)).toInt.toNat := e
    omega
  | k + 1, 0, hT, _, e => by
    have := tk_le_b (hT k (by omega))
    have e_q : tp_n T s k * 256 + (T (s + k)).toInt.toNat = 0 := e
    omega
  | k + 1, m + 1, hT, hB, e => by
    have h1 := tk_le_b (hT k (by omega))
    have h2 := tk_le_b (hB m (by omega))
    have e_q : tp_n T s k * 256 + (T (s + k)).toInt.toNat = tp_n B f m * 256 + (B (f + m)).toInt.toNat := e
    obtain ⟨e1, e2⟩ := tp_inj (k := k) (m := m) (fun i hi => hT i (by omega)) (fun i hi => hB i (by omega)) (by omega)
    subst e1
    refine ⟨rfl, fun i hi => ?_⟩
    by_cases hk : i = k
    · subst hk; rw [← Int32.toInt_inj]; omega
    · exact e2 i (by omega)
/-- whether the letters s .. e of T are f .. l of B -/
def sp_b (B T : Nat → Int32) (f l s e : Nat) : Bool := decide (l - f = e - s) && (List.range (l - f)).all (fun i => decide (B (f + i) = T (s + i)))
theorem sp_iff {B T : Nat → Int32} {f l s e : Nat} : sp_b B T f l s e = true ↔ l - f = e - s ∧ ∀ i, i < l - f → B (f + i) = T (s + i) := by
  unfold sp_b
  rw [Bool.and_eq_true, decide_eq_true_eq, List.all_eq_true]
  refine ⟨fun z => ⟨z.1, fun i hi => of_decide_eq_true (z.2 i (List.mem_range.mpr hi))⟩, fun z => ⟨z.1, fun i hi => decide_eq_true (z.2 i (List.mem_range.mp hi))⟩⟩
/-- a packed word is a constant just when its letters are -/
theorem tk_p_eq {T B : Nat → Int32} {n b f l : Nat} (hk : tk_k T n b = 1) (hb : b ≤ n) (hm : 1 ≤ l - f) (hm8 : l - f ≤ 8) (hB : ∀ i, i < l - f → tk_le (B (f + i)) = true) : tk_p T n b = tk_pf B f (l - f) ↔ sp_b B T f l (tk_s T n b) (tk_e T n b) = true := by
  have hs : tk_s T n b < n := (tk_e_gt (T := T) (n := n) (b := b) (by omega)).2
  have hl : tk_le (T (tk_s T n b)) = true := by
    apply Classical.byContradiction
    intro hc
    unfold tk_k at hk
    rw [if_pos hs, if_neg hc] at hk
    split at hk
    · split at hk <;> cases hk
    · split at hk <;> cases hk
  have he : tk_e T n b = tk_r tk_le T n (tk_s T n b) := by unfold tk_e; rw [if_pos hs, if_pos hl]
  have hge : tk_s T n b ≤ tk_r tk_le T n (tk_s T n b) := tk_r_ge
  have hT : ∀ i, i < tk_r tk_le T n (tk_s T n b) - tk_s T n b → tk_le (T (tk_s T n b + i)) = true := fun i hi => tk_r_all (n := n) (i := tk_s T n b) (by omega) (by omega)
  rw [sp_iff, he]
  have pB := tp_f (T := B) (s := f) hm8 hB
  unfold tk_p
  by_cases h8 : tk_r tk_le T n (tk_s T n b) ≤ tk_s T n b + 8
  · rw [if_pos h8]
    have pT := tp_f (T := T) (s := tk_s T n b) (by omega) hT
    constructor
    · intro e
      have e2 : tp_n T (tk_s T n b) (tk_r tk_le T n (tk_s T n b) - tk_s T n b) = tp_n B f (l - f) := by rw [← pT, ← pB, e]
      obtain ⟨e3, e4⟩ := tp_inj hT hB e2
      exact ⟨e3.symm, e4⟩
    · intro e
      rw [← e.1]
      have : ∀ m, m ≤ l - f → tk_pf T (tk_s T n b) m = tk_pf B f m := by
        intro m
        induction m with
        | zero => intro _; rfl
        | succ m ih =>
          intro hm'
          show (tk_pf T _ m <<< _) ||| (T (_ + m)).toInt64 = (tk_pf B f m <<< _) ||| (B (f + m)).toInt64
          rw [ih (by omega), e.2 m (by omega)]
      exact this _ (Nat.le_refl _)
  · rw [if_neg h8]
    constructor
    · intro e
      exfalso
      have : tp_n B f (l - f) = 0 := by rw [← pB, ← e]; rfl
      obtain ⟨j, hj⟩ : ∃ j, l - f = j + 1 := ⟨l - f - 1, by omega⟩
      rw [hj] at this
      have h2 := tk_le_b (hB j (by omega))
      have e_q : tp_n B f j * 256 + (B (f + j)).toInt.toNat = 0 := this
      omega
    · intro e; omega
/-- which of a String's words: B its bytes, Ln how many, P whether a piece is it -/
def wa_f (B : Nat → Int32) (Ln : Nat) (P : Nat → Nat → Bool) : Nat → Nat → Int32 → Nat → Int32
  | 0, _, _, _ => -1
  | k + 1, i, w, f => if i = Ln ∨ B i = 32 then (if P f i = true then w else wa_f B Ln P k (i + 1) (w + 1) (i + 1)) else wa_f B Ln P k (i + 1) w f
def wa_n (t : Nat) : Nat := if t = 7 then 14 else if t = 8 then 20 else if t = 9 then 33 else 23
def wa (t : Nat) (P : Nat → Nat → Bool) : Int32 := wa_f (ex_st (t + 4)) (wa_n t) P (wa_n t + 1) 0 0 0
theorem wa_7 (P : Nat → Nat → Bool) : wa 7 P = if P 0 4 = true then 0 else if P 5 9 = true then 1 else if P 10 14 = true then 2 else -1 := by rfl
theorem wa_8 (P : Nat → Nat → Bool) : wa 8 P = if P 0 5 = true then 0 else if P 6 10 = true then 1 else if P 11 15 = true then 2 else if P 16 20 = true then 3 else -1 := by rfl
theorem wa_9 (P : Nat → Nat → Bool) : wa 9 P = if P 0 5 = true then 0 else if P 6 10 = true then 1 else if P 11 16 = true then 2 else if P 17 21 = true then 3 else if P 22 28 = true then 4 else if P 29 33 = true then 5 else -1 := by rfl
theorem wa_10 (P : Nat → Nat → Bool) : wa 10 P = if P 0 4 = true then 0 else if P 5 9 = true then 1 else if P 10 14 = true then 2 else if P 15 19 = true then 3 else if P 20 23 = true then 4 else -1 := by rfl
theorem wa_ln : ∀ t, 7 ≤ t → t < 11 → ex_eL (pm_f0 false 0 (fun _ => 0) (t + 4)) = wa_n t := by
  intro t h1 h2
  rcases (show t = 7 ∨ t = 8 ∨ t = 9 ∨ t = 10 by omega) with e | e | e | e <;> subst e <;> rfl
theorem wa_ch : ∀ t, 7 ≤ t → t < 11 → ∀ i, i < wa_n t → ((ex_st (t + 4) i &&& 255).toUInt32 % 65536).toInt32 = ex_st (t + 4) i := by
  have k7 : ∀ i : Fin 14, ((ex_st 11 i.val &&& 255).toUInt32 % 65536).toInt32 = ex_st 11 i.val := by decide +kernel
  have k8 : ∀ i : Fin 20, ((ex_st 12 i.val &&& 255).toUInt32 % 65536).toInt32 = ex_st 12 i.val := by decide +kernel
  have k9 : ∀ i : Fin 33, ((ex_st 13 i.val &&& 255).toUInt32 % 65536).toInt32 = ex_st 13 i.val := by decide +kernel
  have k10 : ∀ i : Fin 23, ((ex_st 14 i.val &&& 255).toUInt32 % 65536).toInt32 = ex_st 14 i.val := by decide +kernel
  intro t h1 h2 i hi
  rcases (show t = 7 ∨ t = 8 ∨ t = 9 ∨ t = 10 by omega) with e | e | e | e <;> subst e
  · exact k7 ⟨i, hi⟩
  · exact k8 ⟨i, hi⟩
  · exact k9 ⟨i, hi⟩
  · exact k10 ⟨i, hi⟩
theorem wa_n33 (t : Nat) : wa_n t ≤ 33 := by
  unfold wa_n
  (repeat' split) <;> omega
def cc25 (t : Nat) (S : ex_S) (v : Int32) (S_q : ex_S) : Prop := S_q = S ∧ (ex_KV S → 7 ≤ t → t < 11 → v = Int32.ofNat (wa_n t))
theorem ec25 : es25 cc25 := by
  refine ev25 ?_
  intro t S kv
  refine ⟨rfl, fun kv h1 h2 => ?_⟩
  rw [(kv (t + 4) (by omega) (by omega)).2, wa_ln t h1 h2]
  rcases (show t = 7 ∨ t = 8 ∨ t = 9 ∨ t = 10 by omega) with e | e | e | e <;> subst e <;> decide
def cc27 (t : Nat) (x : Int32) (S : ex_S) (v : Int32) (S_q : ex_S) : Prop := S_q = S ∧ (ex_KV S → 7 ≤ t → t < 11 → ∀ i, x = Int32.ofNat i → i < wa_n t → v = ex_st (t + 4) i)
theorem ec27 : es27 cc27 := by
  have k : ∀ (t : Nat) (a : Int32) (S : ex_S), cc27 t a S ((((S.1 (t + 4) a.toNatClampNeg) &&& 255).toUInt32 % 65536).toInt32) S := by
    intro t a S
    refine ⟨rfl, fun kv h1 h2 i e hi => ?_⟩
    have := wa_n33 t
    rw [e, n32_tn (by omega), (kv (t + 4) (by omega) (by omega)).1]
    exact wa_ch t h1 h2 i hi
  exact ev27 (fun t a S _ _ _ => k t a S) (fun t a S _ _ _ => k t a S)
def cc36 (t : Nat) (a1 a2 : Int32) (S : ex_S) (v : Int32) (S_q : ex_S) : Prop := S_q = S ∧ (ex_KV S → 7 ≤ t → t < 11 → ∀ f l s e, a1 = Int32.ofNat f → a2 = Int32.ofNat l → f ≤ l → l ≤ wa_n t → S.1 30 3 = Int32.ofNat s → S.1 30 2 = Int32.ofNat e → s ≤ e → e ≤ 600 → v = if sp_b (ex_st (t + 4)) (S.1 18) f l s e = true then 1 else 0)
def ci36 (t : Nat) (a1 a2 : Int32) (S : ex_S) (x : Int32) (T : ex_S) : Prop := T = S ∧ (ex_KV S → 7 ≤ t → t < 11 → ∀ f l s e, a1 = Int32.ofNat f → a2 = Int32.ofNat l → f ≤ l → l ≤ wa_n t → S.1 30 3 = Int32.ofNat s → S.1 30 2 = Int32.ofNat e → s ≤ e → e ≤ 600 → l - f = e - s ∧ ∃ j, f ≤ j ∧ j ≤ l ∧ x = Int32.ofNat j ∧ ∀ i, i < j - f → ex_st (t + 4) (f + i) = S.1 18 (s + i))
theorem ec36 : es36 cc36 := by
  refine ev36 (I20 := ci36) ec27 ?_ ?_ ?_ ?_ ?_
  · intro t a1 a2 S kv c
    refine ⟨rfl, fun kv h1 h2 f l s e e1 e2 hf hl e3 e4 hs he => ?_⟩
    have := wa_n33 t
    rw [e1, e2, e3, e4, n32_sub hf, n32_sub hs, n32_eq (by omega) (by omega)] at c
    exact ⟨c, f, Nat.le_refl _, hf, e1, fun i hi => absurd hi (by omega)⟩
  · intro t a1 a2 S kv c
    refine ⟨rfl, fun kv h1 h2 f l s e e1 e2 hf hl e3 e4 hs he => ?_⟩
    have := wa_n33 t
    rw [e1, e2, e3, e4, n32_sub hf, n32_sub hs, n32_eq (by omega) (by omega)] at c
    rw [if_neg (fun z => c (sp_iff.mp z).1)]
  · intro t a1 a2 S x T hI kv c
    obtain ⟨rfl, hI⟩ := hI
    refine ⟨rfl, fun kv h1 h2 f l s e e1 e2 hf hl e3 e4 hs he => ?_⟩
    have := wa_n33 t
    obtain ⟨d, j, j1, j2, j3, j4⟩ := hI kv h1 h2 f l s e e1 e2 hf hl e3 e4 hs he
    rw [e2, j3, n32_le (by omega) (by omega)] at c
    have : j = l := by omega
    subst this
    rw [if_pos (sp_iff.mpr ⟨d, j4⟩)]
  · intro t a1 a2 S x T hI kv c r U hU c2
    obtain ⟨rfl, hI⟩ := hI
    obtain ⟨rfl, hU⟩ := hU
    refine ⟨rfl, fun kv h1 h2 f l s e e1 e2 hf hl e3 e4 hs he => ?_⟩
    have := wa_n33 t
    obtain ⟨d, j, j1, j2, j3, j4⟩ := hI kv h1 h2 f l s e e1 e2 hf hl e3 e4 hs he
    rw [e2, j3, n32_le (by omega) (by omega)] at c
    have e5 := hU kv h1 h2 j j3 (by omega)
    rw [e5, e3, j3, e1, n32_add, n32_sub (by omega), n32_tn (by omega)] at c2
    refine ⟨d, j + 1, by omega, by omega, by rw [j3, n32_s], fun i hi => ?_⟩
    by_cases hj : i = j - f
    · subst hj; rw [show f + (j - f) = j by omega, c2, show s + j - f = s + (j - f) by omega]
    · exact j4 i (by omega)
  · intro t a1 a2 S x T hI kv c r U hU c2
    obtain ⟨rfl, hI⟩ := hI
    obtain ⟨rfl, hU⟩ := hU
    refine ⟨rfl, fun kv h1 h2 f l s e e1 e2 hf hl e3 e4 hs he => ?_⟩
    have := wa_n33 t
    obtain ⟨d, j, j1, j2, j3, j4⟩ := hI kv h1 h2 f l s e e1 e2 hf hl e3 e4 hs he
    rw [e2, j3, n32_le (by omega) (by omega)] at c
    have e5 := hU kv h1 h2 j j3 (by omega)
    rw [e5, e3, j3, e1, n32_add, n32_sub (by omega), n32_tn (by omega)] at c2
    rw [if_neg]
    intro z
    have z2 := (sp_iff.mp z).2 (j - f) (by omega)
    rw [show f + (j - f) = j by omega] at z2
    exact c2 (z2.trans (by rw [show s + j - f = s + (j - f) by omega]))
/-- which word the class's token is -/
def cc24 (t : Nat) (S : ex_S) (v : Int32) (S_q : ex_S) : Prop := S_q = S ∧ (ex_KV S → 7 ≤ t → t < 11 → ∀ s e, S.1 30 3 = Int32.ofNat s → S.1 30 2 = Int32.ofNat e → s ≤ e → e ≤ 600 → v = if S.1 30 4 = 1 then wa t (fun f l => sp_b (ex_st (t + 4)) (S.1 18) f l s e) else -1)
def ci24 (t : Nat) (S : ex_S) (w x3 x4 : Int32) (T : ex_S) : Prop := T = S ∧ S.1 30 4 = 1 ∧ (ex_KV S → 7 ≤ t → t < 11 → ∀ s e, S.1 30 3 = Int32.ofNat s → S.1 30 2 = Int32.ofNat e → s ≤ e → e ≤ 600 → ∃ f i, f ≤ i ∧ i ≤ wa_n t + 1 ∧ x3 = Int32.ofNat f ∧ x4 = Int32.ofNat i ∧ wa_f (ex_st (t + 4)) (wa_n t) (fun f l => sp_b (ex_st (t + 4)) (S.1 18) f l s e) (wa_n t + 1 - i) i w f = wa t (fun f l => sp_b (ex_st (t + 4)) (S.1 18) f l s e))
theorem wa_fy {B : Nat → Int32} {Ln i f : Nat} {P : Nat → Nat → Bool} {w : Int32} (hi : i ≤ Ln) (h : i = Ln ∨ B i = 32) : wa_f B Ln P (Ln + 1 - i) i w f = if P f i = true then w else wa_f B Ln P (Ln + 1 - (i + 1)) (i + 1) (w + 1) (i + 1) := by
  rw [show Ln + 1 - i = (Ln + 1 - (i + 1)) + 1 by omega]
  exact if_pos h
theorem wa_fn {B : Nat → Int32} {Ln i f : Nat} {P : Nat → Nat → Bool} {w : Int32} (hi : i ≤ Ln) (h : ¬ (i = Ln ∨ B i = 32)) : wa_f B Ln P (Ln + 1 - i) i w f = wa_f B Ln P (Ln + 1 - (i + 1)) (i + 1) w f := by
  rw [show Ln + 1 - i = (Ln + 1 - (i + 1)) + 1 by omega]
  exact if_neg h
theorem ec24 : es24 cc24 := by
  refine ev24 (I17 := ci24) ec25 ec27 ec36 ?_ ?_ ?_ ?_ ?_ ?_ ?_ ?_
  · intro t S kv c
    refine ⟨rfl, c, fun kv h1 h2 s e e3 e4 hs he => ⟨0, 0, Nat.le_refl _, by omega, rfl, rfl, rfl⟩⟩
  · intro t S kv c
    exact ⟨rfl, fun kv h1 h2 s e e3 e4 hs he => by rw [if_neg c]⟩
  · intro t S w x3 x4 T hI kv r U hU c
    obtain ⟨rfl, h4, hI⟩ := hI
    obtain ⟨rfl, hU⟩ := hU
    refine ⟨rfl, fun kv h1 h2 s e e3 e4 hs he => ?_⟩
    have := wa_n33 t
    obtain ⟨f, i, i1, i2, i3, i4, i5⟩ := hI kv h1 h2 s e e3 e4 hs he
    rw [hU kv h1 h2, i4, n32_lt (by omega) (by omega)] at c
    have : i = wa_n t + 1 := by omega
    rw [if_pos h4, ← i5, this, Nat.sub_self]; rfl
  · intro t S w x3 x4 T hI kv r U hU c r2 U2 hU2 c2 r3 U3 hU3 c3
    obtain ⟨rfl, h4, hI⟩ := hI
    obtain ⟨rfl, hU⟩ := hU
    obtain ⟨rfl, hU2⟩ := hU2
    obtain ⟨rfl, hU3⟩ := hU3
    refine ⟨rfl, h4, fun kv h1 h2 s e e3 e4 hs he => ?_⟩
    have := wa_n33 t
    obtain ⟨f, i, i1, i2, i3, i4, i5⟩ := hI kv h1 h2 s e e3 e4 hs he
    rw [hU2 kv h1 h2, i4, n32_eq (by omega) (by omega)] at c2
    rw [hU3 kv h1 h2 f i s e i3 i4 i1 (by omega) e3 e4 hs he, vf_0] at c3
    refine ⟨i + 1, i + 1, Nat.le_refl _, by omega, by rw [i4, n32_s], by rw [i4, n32_s], ?_⟩
    rw [← i5, wa_fy (by omega) (Or.inl c2), if_neg c3]
  · intro t S w x3 x4 T hI kv r U hU c r2 U2 hU2 c2 r3 U3 hU3 c3
    obtain ⟨rfl, h4, hI⟩ := hI
    obtain ⟨rfl, hU⟩ := hU
    obtain ⟨rfl, hU2⟩ := hU2
    obtain ⟨rfl, hU3⟩ := hU3
    refine ⟨rfl, fun kv h1 h2 s e e3 e4 hs he => ?_⟩
    have := wa_n33 t
    obtain ⟨f, i, i1, i2, i3, i4, i5⟩ := hI kv h1 h2 s e e3 e4 hs he
    rw [hU2 kv h1 h2, i4, n32_eq (by omega) (by omega)] at c2
    rw [hU3 kv h1 h2 f i s e i3 i4 i1 (by omega) e3 e4 hs he, vf_0, Classical.not_not] at c3
    rw [if_pos h4, ← i5, wa_fy (by omega) (Or.inl c2), if_pos c3]
  · intro t S w x3 x4 T hI kv r U hU c r2 U2 hU2 c2 r3 U3 hU3 c3
    obtain ⟨rfl, h4, hI⟩ := hI
    obtain ⟨rfl, hU⟩ := hU
    obtain ⟨rfl, hU2⟩ := hU2
    obtain ⟨rfl, hU3⟩ := hU3
    refine ⟨rfl, h4, fun kv h1 h2 s e e3 e4 hs he => ?_⟩
    have := wa_n33 t
    obtain ⟨f, i, i1, i2, i3, i4, i5⟩ := hI kv h1 h2 s e e3 e4 hs he
    rw [hU kv h1 h2, i4, n32_lt (by omega) (by omega)] at c
    rw [hU2 kv h1 h2, i4, n32_eq (by omega) (by omega)] at c2
    rw [hU3 kv h1 h2 i i4 (by omega)] at c3
    refine ⟨f, i + 1, by omega, by omega, i3, by rw [i4, n32_s], ?_⟩
    rw [← i5, wa_fn (by omega) (fun z => z.elim c2 c3)]
  · intro t S w x3 x4 T hI kv r U hU c r2 U2 hU2 c2 r3 U3 hU3 c3 r4 U4 hU4 c4
    obtain ⟨rfl, h4, hI⟩ := hI
    obtain ⟨rfl, hU⟩ := hU
    obtain ⟨rfl, hU2⟩ := hU2
    obtain ⟨rfl, hU3⟩ := hU3
    obtain ⟨rfl, hU4⟩ := hU4
    refine ⟨rfl, h4, fun kv h1 h2 s e e3 e4 hs he => ?_⟩
    have := wa_n33 t
    obtain ⟨f, i, i1, i2, i3, i4, i5⟩ := hI kv h1 h2 s e e3 e4 hs he
    rw [hU kv h1 h2, i4, n32_lt (by omega) (by omega)] at c
    rw [hU2 kv h1 h2, i4, n32_eq (by omega) (by omega)] at c2
    rw [hU3 kv h1 h2 i i4 (by omega), Classical.not_not] at c3
    rw [hU4 kv h1 h2 f i s e i3 i4 i1 (by omega) e3 e4 hs he, vf_0] at c4
    refine ⟨i + 1, i + 1, Nat.le_refl _, by omega, by rw [i4, n32_s], by rw [i4, n32_s], ?_⟩
    rw [← i5, wa_fy (by omega) (Or.inr c3), if_neg c4]
  · intro t S w x3 x4 T hI kv r U hU c r2 U2 hU2 c2 r3 U3 hU3 c3 r4 U4 hU4 c4
    obtain ⟨rfl, h4, hI⟩ := hI
    obtain ⟨rfl, hU⟩ := hU
    obtain ⟨rfl, hU2⟩ := hU2
    obtain ⟨rfl, hU3⟩ := hU3
    obtain ⟨rfl, hU4⟩ := hU4
    refine ⟨rfl, fun kv h1 h2 s e e3 e4 hs he => ?_⟩
    have := wa_n33 t
    obtain ⟨f, i, i1, i2, i3, i4, i5⟩ := hI kv h1 h2 s e e3 e4 hs he
    rw [hU kv h1 h2, i4, n32_lt (by omega) (by omega)] at c
    rw [hU2 kv h1 h2, i4, n32_eq (by omega) (by omega)] at c2
    rw [hU3 kv h1 h2 i i4 (by omega), Classical.not_not] at c3
    rw [hU4 kv h1 h2 f i s e i3 i4 i1 (by omega) e3 e4 hs he, vf_0, Classical.not_not] at c4
    rw [if_pos h4, ← i5, wa_fy (by omega) (Or.inr c3), if_pos c4]
end
section
/-! TEXTS: what a text tells, line by line: its first FAULT, and (without one) its items, READINGS, NEAR, SEATS, the highest SEAT -/
abbrev pA : Type := Int32 × Int32 × Nat × (Nat → Nat → Int32) × Nat × (Nat → Nat → Int32) × (Nat → Int32) × Int32 × Int32
def pf (A : pA) : Int32 := A.1
def pp (A : pA) : Int32 := A.2.1
def pic (A : pA) : Nat := A.2.2.1
def pit (A : pA) : Nat → Nat → Int32 := A.2.2.2.1
def prc (A : pA) : Nat := A.2.2.2.2.1
def prd (A : pA) : Nat → Nat → Int32 := A.2.2.2.2.2.1
def pnr (A : pA) : Nat → Int32 := A.2.2.2.2.2.2.1
def pst (A : pA) : Int32 := A.2.2.2.2.2.2.2.1
def phi (A : pA) : Int32 := A.2.2.2.2.2.2.2.2
def pnote (A : pA) (c : Bool) (f p : Int32) : pA := if pf A = 0 ∧ c = true then (f, p, A.2.2) else A
def pnl (w : Nat) : Nat := [3, 3, 2, 1, 2, 1, 2, 1, 2, 2, 2, 1, 1].getD w 0
def pmo (w : Nat) : Nat := [10, 16, 0, 0, 50, 50, 50, 8, 8, 8, 8, 8, 8].getD w 0
def pgr (w i : Nat) : Int32 := ex_st 3 (3 * w + i)
def pbad (w i : Nat) (l : Nat → Int32) : Bool := decide (pgr w i < l i) || ((decide (w = 3) && decide (l i < 1)) || ((decide (w = 2) || decide (w = 4)) && (decide (i = 1) && decide (l 1 = l 0))))
def pmx (a b : Int32) : Int32 := if a < b then b else a
/-- a line is kept -/
def pkeep (w : Nat) (l : Nat → Int32) (A : pA) : pA :=
  if w = 0 then (pf A, pp A, pic A + 1, fun k j => if k = pic A then l j else pit A k j, A.2.2.2.2)
  else if w = 1 then (pf A, pp A, pic A, pit A, prc A + 1, fun k j => if k = prc A then l j else prd A k j, A.2.2.2.2.2.2)
  else if w = 2 then (pf A, pp A, pic A, pit A, prc A, prd A, fun k => if k = (l 0).toNatClampNeg then pnr A k ||| (1 <<< (l 1 &&& 31)) else pnr A k, pst A, phi A)
  else if w = 3 then (pf A, pp A, pic A, pit A, prc A, prd A, pnr A, l 0, phi A)
  else (pf A, pp A, pic A + 1, fun k j => if k = pic A then (if j = 0 then (if w < 7 then Int32.ofNat (w - 4) else Int32.ofNat (w - 7)) else l (j - 1)) else pit A k j, prc A, prd A, pnr A, pst A, if w < 7 then (if w = 4 then pmx (pmx (phi A) (l 0)) (l 1) else pmx (phi A) (l 0)) else phi A)
/-- what the class's reader holds -/
def ra (S : ex_S) (A : pA) : Prop := S.1 25 1 = pf A ∧ S.1 25 2 = pp A ∧ (pf A = 0 → S.1 25 4 = Int32.ofNat (pic A) ∧ pic A ≤ 50 ∧ S.1 25 6 = Int32.ofNat (prc A) ∧ prc A ≤ 16 ∧ S.1 25 8 = pst A ∧ S.1 25 9 = phi A ∧ (∀ k j, k < pic A → j < 4 → S.1 26 (4 * k + j) = pit A k j) ∧ (∀ k j, k < prc A → j < 4 → S.1 27 (4 * k + j) = prd A k j) ∧ ∀ k, k < 10 → S.1 28 k = pnr A k)
theorem ra.keep {S S_q : ex_S} {A : pA} (h : ra S A) (h5 : ∀ k, S_q.1 25 k = S.1 25 k) (h6 : ∀ k, S_q.1 26 k = S.1 26 k) (h7 : ∀ k, S_q.1 27 k = S.1 27 k) (h8 : ∀ k, S_q.1 28 k = S.1 28 k) : ra S_q A := by
  obtain ⟨a, b, c⟩ := h
  refine ⟨by rw [h5]; exact a, by rw [h5]; exact b, fun z => ?_⟩
  obtain ⟨c1, c2, c3, c4, c5, c6, c7, c8, c9⟩ := c z
  exact ⟨by rw [h5]; exact c1, c2, by rw [h5]; exact c3, c4, by rw [h5]; exact c5, by rw [h5]; exact c6, fun k j hk hj => by rw [h6]; exact c7 k j hk hj, fun k j hk hj => by rw [h7]; exact c8 k j hk hj, fun k hk => by rw [h8]; exact c9 k hk⟩
/-- noteFault -/
def cc21 (f p : Int32) (S S_q : ex_S) : Prop := S_q = if S.1 25 1 = 0 then ex_sx (ex_sx S 25 1 f) 25 2 p else S
theorem ec21 : es21 cc21 := by
  refine ev21 ?_ ?_
  · intro f p S c; exact (if_neg c).symm
  · intro f p S c; exact (if_pos (Classical.not_not.mp c)).symm
/-- numbers of 25 but 1, 2 and all else stay -/
theorem cc21.fx {f p : Int32} {S S_q : ex_S} (h : cc21 f p S S_q) : ex_fx (fun a k => a = 25 ∧ (k = 1 ∨ k = 2)) S S_q := by
  unfold cc21 at h
  rw [h]; split
  · exact ((ex_fx.refl _ S).sx (by decide)).sx (by decide)
  · exact ex_fx.refl _ S
theorem cc21.ra {f p : Int32} {S S_q : ex_S} {A : pA} (h : cc21 f p S S_q) (r : ra S A) (hf : f ≠ 0) : ra S_q (pnote A true f p) := by
  have F := h.fx
  unfold cc21 at h
  unfold pnote
  by_cases h0 : pf A = 0
  · rw [if_pos ⟨h0, rfl⟩]
    rw [if_pos (by rw [r.1]; exact h0)] at h
    subst h
    exact ⟨rfl, rfl, fun z => absurd z hf⟩
  · rw [if_neg (fun z => h0 z.1)]
    rw [if_neg (by rw [r.1]; exact h0)] at h
    rw [h]; exact r
theorem pnote_f (A : pA) (f p : Int32) : pnote A false f p = A := if_neg (fun z => by cases z.2)
def pthere (w : Nat) (A : pA) : Nat := if w = 1 then prc A else pic A
def pmany (w : Nat) (A : pA) : Bool := decide (0 < pmo w ∧ pmo w ≤ pthere w A)
theorem p_mo : ∀ w, w < 13 → ex_st 4 w = Int32.ofNat (pmo w) := by
  intro w h
  have k : ∀ w : Fin 13, ex_st 4 w.val = Int32.ofNat (pmo w.val) := by decide +kernel
  exact k ⟨w, h⟩
theorem p_nl : ∀ w, w < 13 → ex_st 2 w = Int32.ofNat (pnl w) := by
  intro w h
  have k : ∀ w : Fin 13, ex_st 2 w.val = Int32.ofNat (pnl w.val) := by decide +kernel
  exact k ⟨w, h⟩
theorem p_mo50 (w : Nat) : pmo w ≤ 50 := by
  unfold pmo
  match w with
  | 0 => decide
  | 1 => decide
  | 2 => decide
  | 3 => decide
  | 4 => decide
  | 5 => decide
  | 6 => decide
  | 7 => decide
  | 8 => decide
  | 9 => decide
  | 10 => decide
  | 11 => decide
  | 12 => decide
  | n + 13 => show ([] : List Nat).getD n 0 ≤ 50; simp
/-- noteMany -/
def cc38 (w : Int32) (S S_q : ex_S) : Prop := ex_fx (fun a k => a = 25 ∧ (k = 1 ∨ k = 2)) S S_q ∧ ∀ i A, w = Int32.ofNat i → i < 13 → ra S A → ra S_q (pnote A (pmany i A) 3 (S.1 30 3))
theorem cc38_no {w : Int32} {S : ex_S} (h : ∀ i A, w = Int32.ofNat i → i < 13 → ra S A → pf A = 0 → pmany i A = false) : cc38 w S S := by
  refine ⟨ex_fx.refl _ S, fun i A e hi r => ?_⟩
  by_cases h0 : pf A = 0
  · rw [h i A e hi r h0, pnote_f]; exact r
  · unfold pnote; rw [if_neg (fun z => h0 z.1)]; exact r
theorem cc38_yes {w : Int32} {S S_q : ex_S} (h21 : cc21 3 (S.1 30 3) S S_q) (h : ∀ i A, w = Int32.ofNat i → i < 13 → ra S A → pf A = 0 → pmany i A = true) : cc38 w S S_q := by
  refine ⟨h21.fx, fun i A e hi r => ?_⟩
  by_cases h0 : pf A = 0
  · rw [h i A e hi r h0]; exact h21.ra r (by decide)
  · have := h21.ra r (by decide)
    unfold pnote at this ⊢
    rw [if_neg (fun z => h0 z.1)] at this ⊢; exact this
theorem ec38 : es38 cc38 := by
  refine ev38 ec21 ?_ ?_ ?_ ?_ ?_ ?_
  · intro w S c1 c2
    refine cc38_no (fun i A e hi r h0 => ?_)
    have := p_mo50 i
    rw [e, n32_tn (by omega), p_mo i hi, show (0 : Int32) = Int32.ofNat 0 from rfl, n32_le (by omega) (by omega)] at c2
    exact decide_eq_false (fun z => by omega)
  · intro w S c1 c2 c3
    refine cc38_no (fun i A e hi r h0 => ?_)
    have := p_mo50 i
    obtain ⟨r1, r2, _⟩ := r.2.2 h0
    rw [e, n32_tn (by omega), p_mo i hi, r1, n32_lt (by omega) (by omega)] at c3
    have h1 : ¬ i = 1 := fun z => c1 (by rw [e, z]; rfl)
    refine decide_eq_false (fun z => ?_)
    unfold pthere at z
    rw [if_neg h1] at z; omega
  · intro w S c1 c2 c3 U hU
    refine cc38_yes hU (fun i A e hi r h0 => ?_)
    have := p_mo50 i
    obtain ⟨r1, r2, _⟩ := r.2.2 h0
    rw [e, n32_tn (by omega), p_mo i hi, show (0 : Int32) = Int32.ofNat 0 from rfl, n32_le (by omega) (by omega)] at c2
    rw [e, n32_tn (by omega), p_mo i hi, r1, n32_lt (by omega) (by omega)] at c3
    have h1 : ¬ i = 1 := fun z => c1 (by rw [e, z]; rfl)
    refine decide_eq_true ⟨by omega, ?_⟩
    unfold pthere
    rw [if_neg h1]; omega
  · intro w S c1 c2
    refine cc38_no (fun i A e hi r h0 => ?_)
    have := p_mo50 i
    rw [e, n32_tn (by omega), p_mo i hi, show (0 : Int32) = Int32.ofNat 0 from rfl, n32_le (by omega) (by omega)] at c2
    exact decide_eq_false (fun z => by omega)
  · intro w S c1 c2 c3
    refine cc38_no (fun i A e hi r h0 => ?_)
    have := p_mo50 i
    obtain ⟨r1, r2, r3, r4, _⟩ := r.2.2 h0
    rw [e, n32_tn (by omega), p_mo i hi, r3, n32_lt (by omega) (by omega)] at c3
    have h1 : i = 1 := by
      rw [e] at c1
      exact (n32_eq (by omega) (by omega)).mp ((Classical.not_not.mp c1).trans (show (1 : Int32) = Int32.ofNat 1 from rfl))
    refine decide_eq_false (fun z => ?_)
    unfold pthere at z
    rw [if_pos h1] at z; omega
  · intro w S c1 c2 c3 U hU
    refine cc38_yes hU (fun i A e hi r h0 => ?_)
    have := p_mo50 i
    obtain ⟨r1, r2, r3, r4, _⟩ := r.2.2 h0
    rw [e, n32_tn (by omega), p_mo i hi, show (0 : Int32) = Int32.ofNat 0 from rfl, n32_le (by omega) (by omega)] at c2
    rw [e, n32_tn (by omega), p_mo i hi, r3, n32_lt (by omega) (by omega)] at c3
    have h1 : i = 1 := by
      rw [e] at c1
      exact (n32_eq (by omega) (by omega)).mp ((Classical.not_not.mp c1).trans (show (1 : Int32) = Int32.ofNat 1 from rfl))
    refine decide_eq_true ⟨by omega, ?_⟩
    unfold pthere
    rw [if_pos h1]; omega
/-- noteNumber -/
def pb39 (w i : Int32) (S : ex_S) : Prop := ¬ (S.1 29 i.toNatClampNeg ≤ ex_st 3 ((w * 3) + i).toNatClampNeg) ∨ (w = 3 ∧ ¬ (1 ≤ S.1 29 i.toNatClampNeg)) ∨ ((w = 2 ∨ w = 4) ∧ i = 1 ∧ S.1 29 1 = S.1 29 0)
def cc39 (w i : Int32) (S S_q : ex_S) : Prop := (pb39 w i S → cc21 2 (S.1 30 3) S S_q) ∧ (¬ pb39 w i S → S_q = S)
theorem ec39 : es39 cc39 := by
  refine ev39 ec21 ?_ ?_ ?_ ?_ ?_ ?_ ?_ ?_ ?_ ?_ ?_ ?_ ?_ ?_ ?_ ?_ ?_ ?_ ?_ ?_ ?_ ?_ ?_ ?_ ?_ ?_ ?_ ?_ ?_ ?_ ?_ ?_ ?_ ?_ ?_ ?_ ?_ ?_ ?_ ?_ ?_ ?_
  all_goals (intros; simp_all [cc39, pb39])
  all_goals (intro z; first | exact absurd z (Int32.not_lt.mpr (by assumption)) | exact absurd z (Int32.not_le.mpr (by assumption)))
theorem pb39_iff {w i : Nat} {S : ex_S} (hw : w < 13) (hi : i < 3) : pb39 (Int32.ofNat w) (Int32.ofNat i) S ↔ pbad w i (S.1 29) = true := by
  have e3 : (Int32.ofNat w * 3 + Int32.ofNat i).toNatClampNeg = 3 * w + i := by
    rw [show (3 : Int32) = Int32.ofNat 3 from rfl, ← Int32.ofNat_mul, n32_add, n32_tn (by omega)]; omega
  unfold pb39 pbad pgr
  rw [e3, n32_tn (by omega), show (3 : Int32) = Int32.ofNat 3 from rfl, show (2 : Int32) = Int32.ofNat 2 from rfl, show (4 : Int32) = Int32.ofNat 4 from rfl, show (1 : Int32) = Int32.ofNat 1 from rfl, n32_eq (by omega) (by omega), n32_eq (by omega) (by omega), n32_eq (by omega) (by omega), n32_eq (by omega) (by omega)]
  simp only [Bool.or_eq_true, Bool.and_eq_true, decide_eq_true_eq, Int32.not_le]
theorem cc39.fx {w i : Int32} {S S_q : ex_S} (h : cc39 w i S S_q) : ex_fx (fun a k => a = 25 ∧ (k = 1 ∨ k = 2)) S S_q := by
  by_cases hb : pb39 w i S
  · exact (h.1 hb).fx
  · rw [h.2 hb]; exact ex_fx.refl _ S
theorem cc39.ra {w i : Nat} {S S_q : ex_S} {A : pA} (h : cc39 (Int32.ofNat w) (Int32.ofNat i) S S_q) (hw : w < 13) (hi : i < 3) (r : ra S A) : ra S_q (pnote A (pbad w i (S.1 29)) 2 (S.1 30 3)) := by
  cases hb : pbad w i (S.1 29) with
  | true => exact (h.1 ((pb39_iff hw hi).mpr hb)).ra r (by decide)
  | false =>
    rw [pnote_f, h.2 (fun z => by rw [(pb39_iff hw hi).mp z] at hb; cases hb)]; exact r
end
section
theorem ex_fx.cp {P : Nat → Nat → Prop} {S T : ex_S} {a sp b dp n : Nat} (h : ex_fx P S T) (hP : ∀ j, P b j) : ex_fx P S (ex_cp T a sp b dp n) := by
  refine ⟨fun c j hc => ?_, h.2⟩
  show (if c = b ∧ dp ≤ j ∧ j < dp + n then T.1 a (sp + (j - dp)) else T.1 c j) = _
  rw [if_neg (fun z => hc (by rw [z.1]; exact hP j))]; exact h.1 c j hc
theorem ex_cp_at (S : ex_S) (a sp b dp n c j : Nat) : (ex_cp S a sp b dp n).1 c j = if c = b ∧ dp ≤ j ∧ j < dp + n then S.1 a (sp + (j - dp)) else S.1 c j := rfl
theorem n32_m4 (i : Nat) : Int32.ofNat i * 4 = Int32.ofNat (4 * i) := by
  rw [show (4 : Int32) = Int32.ofNat 4 from rfl, ← Int32.ofNat_mul, Nat.mul_comm]
/-- store -/
def cc41 (a0 : Nat) (a1 a2 : Int32) (S : ex_S) (v : Int32) (S_q : ex_S) : Prop := v = a1 + 1 ∧ S_q = ex_cp S 29 0 a0 ((a1 * 4) + a2).toNatClampNeg (4 - a2).toNatClampNeg
theorem ec41 : es41 cc41 := ev41 (fun _ _ _ _ => ⟨rfl, rfl⟩)
/-- keepDeedOrLaw -/
def ck42 (w : Int32) (S : ex_S) : ex_S := if 7 ≤ w then ex_sx S 26 ((S.1 25 4) * 4).toNatClampNeg (w - 7) else if w = 4 then ex_sx (ex_sx (ex_sx S 25 9 (pmx (S.1 25 9) (S.1 29 0))) 25 9 (pmx (pmx (S.1 25 9) (S.1 29 0)) (S.1 29 1))) 26 ((S.1 25 4) * 4).toNatClampNeg (w - 4) else ex_sx (ex_sx S 25 9 (pmx (S.1 25 9) (S.1 29 0))) 26 ((S.1 25 4) * 4).toNatClampNeg (w - 4)
def cc42 (w : Int32) (S S_q : ex_S) : Prop := S_q = ex_sx (ex_cp (ck42 w S) 29 0 26 ((S.1 25 4) * 4 + 1).toNatClampNeg 3) 25 4 (S.1 25 4 + 1)
theorem ec42 : es42 cc42 := by
  refine ev42 ec41 ?_ ?_ ?_
  · intro w S c r U hU
    obtain ⟨rfl, rfl⟩ := hU
    unfold cc42 ck42; rw [if_pos c]; rfl
  · intro w S c c2 r U hU
    obtain ⟨rfl, rfl⟩ := hU
    unfold cc42 ck42; rw [if_neg c, if_neg c2]; rfl
  · intro w S c c2 r U hU
    obtain ⟨rfl, rfl⟩ := hU
    unfold cc42 ck42; rw [if_neg c, if_pos (Classical.not_not.mp c2)]; rfl
/-- keepLine -/
def pP40 (a k : Nat) : Prop := (a = 25 ∧ 3 ≤ k) ∨ a = 26 ∨ a = 27 ∨ a = 28
def proom (w : Nat) (A : pA) : Prop := (w = 1 → prc A < 16) ∧ ((w = 0 ∨ 4 ≤ w) → pic A < 50)
def cc40 (w : Int32) (S S_q : ex_S) : Prop := ex_fx pP40 S S_q ∧ ∀ i A, w = Int32.ofNat i → i < 13 → ra S A → (pf A = 0 → proom i A) → ra S_q (if pf A = 0 then pkeep i (S.1 29) A else A)
theorem n32_w {i k : Nat} (hi : i < 13) (hk : k < 100) (h : Int32.ofNat i = Int32.ofNat k) : i = k := (n32_eq (by omega) (by omega)).mp h
theorem ec40 : es40 cc40 := by
  refine ev40 ec41 ec42 ?_ ?_ ?_ ?_ ?_ ?_
  · intro w S c1 c2 r U hU
    obtain ⟨rfl, rfl⟩ := hU
    refine ⟨((ex_fx.refl _ S).cp (fun j => by unfold pP40; omega)).sx (by unfold pP40; omega), fun i A e hi h hr => ?_⟩
    have h0 : pf A = 0 := h.1.symm.trans c1
    have i0 : i = 0 := n32_w hi (by decide) (e.symm.trans (c2.trans (show (0 : Int32) = Int32.ofNat 0 from rfl)))
    subst i0
    obtain ⟨r1, r2, r3, r4, r5, r6, r7, r8, r9⟩ := h.2.2 h0
    have hlt : pic A < 50 := (hr h0).2 (Or.inl rfl)
    rw [if_pos h0]
    have e4 : ((S.1 25 4) * 4 + 0).toNatClampNeg = 4 * pic A := by
      rw [r1, n32_m4, show (0 : Int32) = Int32.ofNat 0 from rfl, n32_add, n32_tn (by omega)]; rfl
    refine ⟨h.1, h.2.1, fun _ => ⟨?_, ?_, r3, r4, r5, r6, fun k j hk hj => ?_, r8, r9⟩⟩
    · show S.1 25 4 + 1 = _
      rw [r1, n32_s]; rfl
    · show pic A + 1 ≤ 50
      omega
    · show (ex_cp S 29 0 26 ((S.1 25 4) * 4 + 0).toNatClampNeg 4).1 26 (4 * k + j) = if k = pic A then S.1 29 j else pit A k j
      rw [ex_cp_at, e4]
      have hk' : k < pic A + 1 := hk
      by_cases hkk : k = pic A
      · rw [if_pos ⟨rfl, by omega, by omega⟩, if_pos hkk, show 0 + (4 * k + j - 4 * pic A) = j by omega]
      · rw [if_neg (by omega), if_neg hkk]; exact r7 k j (by omega) hj
  · intro w S c1 _ c2 r U hU
    obtain ⟨rfl, rfl⟩ := hU
    refine ⟨((ex_fx.refl _ S).cp (fun j => by unfold pP40; omega)).sx (by unfold pP40; omega), fun i A e hi h hr => ?_⟩
    have h0 : pf A = 0 := h.1.symm.trans c1
    have i0 : i = 1 := n32_w hi (by decide) (e.symm.trans (c2.trans (show (1 : Int32) = Int32.ofNat 1 from rfl)))
    subst i0
    obtain ⟨r1, r2, r3, r4, r5, r6, r7, r8, r9⟩ := h.2.2 h0
    have hlt : prc A < 16 := (hr h0).1 rfl
    rw [if_pos h0]
    have e4 : ((S.1 25 6) * 4 + 0).toNatClampNeg = 4 * prc A := by
      rw [r3, n32_m4, show (0 : Int32) = Int32.ofNat 0 from rfl, n32_add, n32_tn (by omega)]; rfl
    refine ⟨h.1, h.2.1, fun _ => ⟨r1, r2, ?_, ?_, r5, r6, r7, fun k j hk hj => ?_, r9⟩⟩
    · show S.1 25 6 + 1 = _
      rw [r3, n32_s]; rfl
    · show prc A + 1 ≤ 16
      omega
    · show (ex_cp S 29 0 27 ((S.1 25 6) * 4 + 0).toNatClampNeg 4).1 27 (4 * k + j) = if k = prc A then S.1 29 j else prd A k j
      rw [ex_cp_at, e4]
      have hk' : k < prc A + 1 := hk
      by_cases hkk : k = prc A
      · rw [if_pos ⟨rfl, by omega, by omega⟩, if_pos hkk, show 0 + (4 * k + j - 4 * prc A) = j by omega]
      · rw [if_neg (by omega), if_neg hkk]; exact r8 k j (by omega) hj
  · intro w S c1 _ _ c2
    refine ⟨(ex_fx.refl _ S).sx (by unfold pP40; omega), fun i A e hi h hr => ?_⟩
    have h0 : pf A = 0 := h.1.symm.trans c1
    have i0 : i = 2 := n32_w hi (by decide) (e.symm.trans (c2.trans (show (2 : Int32) = Int32.ofNat 2 from rfl)))
    subst i0
    obtain ⟨r1, r2, r3, r4, r5, r6, r7, r8, r9⟩ := h.2.2 h0
    rw [if_pos h0]
    refine ⟨h.1, h.2.1, fun _ => ⟨r1, r2, r3, r4, r5, r6, r7, r8, fun k hk => ?_⟩⟩
    show (ex_sx S 28 _ _).1 28 k = if k = (S.1 29 0).toNatClampNeg then pnr A k ||| (1 <<< (S.1 29 1 &&& 31)) else pnr A k
    rw [ex_sx_at]
    by_cases hkk : k = (S.1 29 0).toNatClampNeg
    · rw [if_pos ⟨rfl, hkk⟩, if_pos hkk, ← hkk, r9 k hk]
    · rw [if_neg (fun z => hkk z.2), if_neg hkk]; exact r9 k hk
  · intro w S c1 _ _ _ c2
    refine ⟨(ex_fx.refl _ S).sx (by unfold pP40; omega), fun i A e hi h hr => ?_⟩
    have h0 : pf A = 0 := h.1.symm.trans c1
    have i0 : i = 3 := n32_w hi (by decide) (e.symm.trans (c2.trans (show (3 : Int32) = Int32.ofNat 3 from rfl)))
    subst i0
    obtain ⟨r1, r2, r3, r4, r5, r6, r7, r8, r9⟩ := h.2.2 h0
    rw [if_pos h0]
    exact ⟨h.1, h.2.1, fun _ => ⟨r1, r2, r3, r4, rfl, r6, r7, r8, r9⟩⟩
  · intro w S c1 d0 d1 d2 d3 U hU
    have hU' : U = ex_sx (ex_cp (ck42 w S) 29 0 26 ((S.1 25 4) * 4 + 1).toNatClampNeg 3) 25 4 (S.1 25 4 + 1) := hU
    subst hU'
    have F0 : ex_fx pP40 S (ck42 w S) := by
      unfold ck42
      split
      · exact (ex_fx.refl _ S).sx (by unfold pP40; omega)
      · split
        · exact (((ex_fx.refl _ S).sx (by unfold pP40; omega)).sx (by unfold pP40; omega)).sx (by unfold pP40; omega)
        · exact ((ex_fx.refl _ S).sx (by unfold pP40; omega)).sx (by unfold pP40; omega)
    refine ⟨(F0.cp (fun j => by unfold pP40; omega)).sx (by unfold pP40; omega), fun i A e hi h hr => ?_⟩
    have h0 : pf A = 0 := h.1.symm.trans c1
    have i0 : ¬ i = 0 := fun z => d0 (by rw [e, z]; rfl)
    have i1 : ¬ i = 1 := fun z => d1 (by rw [e, z]; rfl)
    have i2 : ¬ i = 2 := fun z => d2 (by rw [e, z]; rfl)
    have i3 : ¬ i = 3 := fun z => d3 (by rw [e, z]; rfl)
    obtain ⟨r1, r2, r3, r4, r5, r6, r7, r8, r9⟩ := h.2.2 h0
    have hlt : pic A < 50 := (hr h0).2 (Or.inr (by omega))
    rw [if_pos h0]
    have e4 : ((S.1 25 4) * 4 + 1).toNatClampNeg = 4 * pic A + 1 := by
      rw [r1, n32_m4, n32_s, n32_tn (by omega)]
    have e5 : ((S.1 25 4) * 4).toNatClampNeg = 4 * pic A := by
      rw [r1, n32_m4, n32_tn (by omega)]
    -- what ck42 leaves
    have q29 : ∀ j, (ck42 w S).1 29 j = S.1 29 j := fun j => F0.1 29 j (by unfold pP40; omega)
    have q26 : ∀ j, (ck42 w S).1 26 j = if j = 4 * pic A then (if i < 7 then Int32.ofNat (i - 4) else Int32.ofNat (i - 7)) else S.1 26 j := by
      intro j
      unfold ck42
      rw [e5]
      by_cases h7 : i < 7
      · have c7 : ¬ 7 ≤ w := by rw [e, show (7 : Int32) = Int32.ofNat 7 from rfl, n32_le (by omega) (by omega)]; omega
        have ew : w - 4 = Int32.ofNat (i - 4) := by rw [e, show (4 : Int32) = Int32.ofNat 4 from rfl, n32_sub (by omega)]
        rw [if_neg c7, if_pos h7]
        split
        · rw [ex_sx_at]
          by_cases hj : j = 4 * pic A
          · rw [if_pos ⟨rfl, hj⟩, if_pos hj, ew]
          · rw [if_neg (fun z => hj z.2), if_neg hj]; rfl
        · rw [ex_sx_at]
          by_cases hj : j = 4 * pic A
          · rw [if_pos ⟨rfl, hj⟩, if_pos hj, ew]
          · rw [if_neg (fun z => hj z.2), if_neg hj]; rfl
      · have c7 : 7 ≤ w := by rw [e, show (7 : Int32) = Int32.ofNat 7 from rfl, n32_le (by omega) (by omega)]; omega
        have ew : w - 7 = Int32.ofNat (i - 7) := by rw [e, show (7 : Int32) = Int32.ofNat 7 from rfl, n32_sub (by omega)]
        rw [if_pos c7, if_neg h7, ex_sx_at]
        by_cases hj : j = 4 * pic A
        · rw [if_pos ⟨rfl, hj⟩, if_pos hj, ew]
        · rw [if_neg (fun z => hj z.2), if_neg hj]
    have q25 : ∀ j, j ≠ 9 → (ck42 w S).1 25 j = S.1 25 j := by
      intro j hj
      unfold ck42
      split
      · rw [ex_sx_ne (by omega)]
      · split
        · rw [ex_sx_ne (by omega), ex_sx_ne (by omega), ex_sx_ne (by omega)]
        · rw [ex_sx_ne (by omega), ex_sx_ne (by omega)]
    have q9 : (ck42 w S).1 25 9 = if i < 7 then (if i = 4 then pmx (pmx (phi A) (S.1 29 0)) (S.1 29 1) else pmx (phi A) (S.1 29 0)) else phi A := by
      unfold ck42
      by_cases h7 : i < 7
      · have c7 : ¬ 7 ≤ w := by rw [e, show (7 : Int32) = Int32.ofNat 7 from rfl, n32_le (by omega) (by omega)]; omega
        rw [if_neg c7, if_pos h7]
        by_cases h4 : i = 4
        · have c4 : w = 4 := by rw [e, h4]; rfl
          rw [if_pos c4, if_pos h4, ex_sx_ne (by omega), ex_sx_eq, r6]
        · have c4 : ¬ w = 4 := fun z => h4 (n32_w hi (by decide) (e.symm.trans (z.trans (show (4 : Int32) = Int32.ofNat 4 from rfl))))
          rw [if_neg c4, if_neg h4, ex_sx_ne (by omega), ex_sx_eq, r6]
      · have c7 : 7 ≤ w := by rw [e, show (7 : Int32) = Int32.ofNat 7 from rfl, n32_le (by omega) (by omega)]; omega
        rw [if_pos c7, if_neg h7, ex_sx_ne (by omega), r6]
    have q27 : ∀ j, (ck42 w S).1 27 j = S.1 27 j := by
      intro j; unfold ck42
      split
      · rw [ex_sx_ne (by omega)]
      · split
        · rw [ex_sx_ne (by omega), ex_sx_ne (by omega), ex_sx_ne (by omega)]
        · rw [ex_sx_ne (by omega), ex_sx_ne (by omega)]
    have q28 : ∀ j, (ck42 w S).1 28 j = S.1 28 j := by
      intro j; unfold ck42
      split
      · rw [ex_sx_ne (by omega)]
      · split
        · rw [ex_sx_ne (by omega), ex_sx_ne (by omega), ex_sx_ne (by omega)]
        · rw [ex_sx_ne (by omega), ex_sx_ne (by omega)]
    have ek : pkeep i (S.1 29) A = (pf A, pp A, pic A + 1, fun k j => if k = pic A then (if j = 0 then (if i < 7 then Int32.ofNat (i - 4) else Int32.ofNat (i - 7)) else S.1 29 (j - 1)) else pit A k j, prc A, prd A, pnr A, pst A, if i < 7 then (if i = 4 then pmx (pmx (phi A) (S.1 29 0)) (S.1 29 1) else pmx (phi A) (S.1 29 0)) else phi A) := by
      unfold pkeep; rw [if_neg i0, if_neg i1, if_neg i2, if_neg i3]
    rw [ek]
    have z25 : ∀ j, j ≠ 4 → (ex_sx (ex_cp (ck42 w S) 29 0 26 ((S.1 25 4) * 4 + 1).toNatClampNeg 3) 25 4 (S.1 25 4 + 1)).1 25 j = (ck42 w S).1 25 j := by
      intro j hj; rw [ex_sx_ne (by omega), ex_cp_at, if_neg (by omega)]
    refine ⟨?_, ?_, fun _ => ⟨?_, ?_, ?_, r4, ?_, ?_, fun k j hk hj => ?_, fun k j hk hj => ?_, fun k hk => ?_⟩⟩
    · rw [z25 1 (by decide), q25 1 (by decide)]; exact h.1
    · rw [z25 2 (by decide), q25 2 (by decide)]; exact h.2.1
    · rw [ex_sx_eq, r1, n32_s]; rfl
    · show pic A + 1 ≤ 50
      omega
    · rw [z25 6 (by decide), q25 6 (by decide)]; exact r3
    · rw [z25 8 (by decide), q25 8 (by decide)]; exact r5
    · rw [z25 9 (by decide), q9]; rfl
    · rw [ex_sx_ne (by omega), ex_cp_at, e4]
      have hk' : k < pic A + 1 := hk
      show _ = if k = pic A then (if j = 0 then (if i < 7 then Int32.ofNat (i - 4) else Int32.ofNat (i - 7)) else S.1 29 (j - 1)) else pit A k j
      by_cases hkk : k = pic A
      · rw [if_pos hkk]
        by_cases hj0 : j = 0
        · rw [if_neg (by omega), q26, if_pos (by omega), if_pos hj0]
        · rw [if_pos ⟨rfl, by omega, by omega⟩, q29, if_neg hj0, show 0 + (4 * k + j - (4 * pic A + 1)) = j - 1 by omega]
      · rw [if_neg (by omega), q26, if_neg (by omega), if_neg hkk]; exact r7 k j (by omega) hj
    · rw [ex_sx_ne (by omega), ex_cp_at, if_neg (by omega), q27]; exact r8 k j hk hj
    · rw [ex_sx_ne (by omega), ex_cp_at, if_neg (by omega), q28]; exact r9 k hk
  · intro w S c1
    refine ⟨ex_fx.refl _ S, fun i A e hi h hr => ?_⟩
    rw [if_neg (fun z => c1 (h.1.trans z))]; exact h
end
section
/-! LINES of a text, as both sides read them -/
def pwt (sort : Int32) : Nat := if sort = 0 then 7 else if sort = 2 then 8 else 9
def pwb (sort : Int32) : Int32 := if sort = 0 then 0 else if sort = 2 then 3 else 7
def pws (t : Nat) (T : Nat → Int32) (n b : Nat) : Int32 := if tk_k T n b = 1 then wa t (fun f l => sp_b (ex_st (t + 4)) T f l (tk_s T n b) (tk_e T n b)) else -1
def pfw (sort : Int32) (T : Nat → Int32) (n b : Nat) : Int32 := if pws (pwt sort) T n b = -1 then -1 else pwb sort + pws (pwt sort) T n b
/-- behind i tokens -/
def nb (T : Nat → Int32) (n b : Nat) : Nat → Nat
  | 0 => b
  | i + 1 => tk_e T n (nb T n b i)
/-- where the first of c tokens is no NUMBER -/
def pl_f (T : Nat → Int32) (n : Nat) : Nat → Nat → Option Nat
  | 0, _ => none
  | c + 1, b => if tk_k T n b = 2 then pl_f T n c (tk_e T n b) else some (tk_s T n b)
def pl_s (T : Nat → Int32) (n b : Nat) : Option Nat := if tk_k T n b = 3 then none else some (tk_s T n b)
def pl_t (T : Nat → Int32) (n w b : Nat) : Option Nat := if w = 0 then (if pws 10 T n b = -1 then some (tk_s T n b) else pl_s T n (tk_e T n b)) else pl_s T n b
/-- where a line stops being one (b: behind its first word) -/
def pl_fail (T : Nat → Int32) (n w b : Nat) : Option Nat := match pl_f T n (pnl w) b with | some p => some p | none => pl_t T n w (nb T n b (pnl w))
def pl_end (T : Nat → Int32) (n w b : Nat) : Nat := tk_e T n (if w = 0 then tk_e T n (nb T n b (pnl w)) else nb T n b (pnl w))
/-- its numbers -/
def pll (T : Nat → Int32) (n w b j : Nat) : Int32 := if j < pnl w then tk_v T n (nb T n b j) else if w = 0 ∧ j = 3 then pws 10 T n (nb T n b 3) else -1
/-- FAULTS of its first i numbers -/
def pan (T : Nat → Int32) (n w b : Nat) (A : pA) : Nat → pA
  | 0 => A
  | i + 1 => pnote (pan T n w b A i) (pbad w i (pll T n w b)) 2 (Int32.ofNat (tk_s T n (nb T n b i)))
def pline (T : Nat → Int32) (n w s b : Nat) (A : pA) : pA := if pf (pan T n w b (pnote A (pmany w A) 3 (Int32.ofNat s)) (pnl w)) = 0 then pkeep w (pll T n w b) (pan T n w b (pnote A (pmany w A) 3 (Int32.ofNat s)) (pnl w)) else pan T n w b (pnote A (pmany w A) 3 (Int32.ofNat s)) (pnl w)
/-- all lines: where the text stops being one, or what it tells -/
def ps_run (sort : Int32) (T : Nat → Int32) (n : Nat) : Nat → Nat → pA → Nat ⊕ pA
  | 0, _, A => .inr A
  | k + 1, b, A => if tk_k T n b = 0 then .inr A else if pfw sort T n b = -1 then .inl (tk_s T n b) else match pl_fail T n (pfw sort T n b).toNatClampNeg (tk_e T n b) with
    | some p => .inl p
    | none => ps_run sort T n k (pl_end T n (pfw sort T n b).toNatClampNeg (tk_e T n b)) (pline T n (pfw sort T n b).toNatClampNeg (tk_s T n b) (tk_e T n b) A)
/-- a ROW's SIGNS -/
def pr_keep (x : Int32) (A : pA) : pA := (pf A, pp A, pic A + 1, fun k j => if k = pic A then x else pit A k j, A.2.2.2.2)
def pr_one (T : Nat → Int32) (n b : Nat) (A : pA) : pA := if pf (pnote (pnote A (decide (10 ≤ tk_v T n b)) 2 (Int32.ofNat (tk_s T n b))) (decide (12 ≤ pic A)) 3 (Int32.ofNat (tk_s T n b))) = 0 then pr_keep (tk_v T n b) A else pnote (pnote A (decide (10 ≤ tk_v T n b)) 2 (Int32.ofNat (tk_s T n b))) (decide (12 ≤ pic A)) 3 (Int32.ofNat (tk_s T n b))
def pr_run (T : Nat → Int32) (n : Nat) : Nat → Nat → pA → Nat ⊕ pA
  | 0, _, A => .inr A
  | k + 1, b, A => if tk_k T n b = 0 then .inr A else if tk_k T n b = 2 then pr_run T n k (tk_e T n b) (pr_one T n b A) else .inl (tk_s T n b)
def pA0 : pA := (0, -1, 0, fun _ _ => 0, 0, fun _ _ => 0, fun _ => 0, 4, -1)
def ps_all (sort : Int32) (T : Nat → Int32) (n : Nat) : Nat ⊕ pA := if sort = 1 then pr_run T n 601 0 pA0 else ps_run sort T n 601 0 pA0
def ps_last (sort : Int32) (A : pA) : Bool := (decide (sort = 1) && decide (pic A = 0)) || (decide (sort = 2) && decide (pst A ≤ phi A))
/-- a text's FAULT, its place, and what it tells -/
def ps_text (sort : Int32) (T : Nat → Int32) (n : Nat) : pA := match ps_all sort T n with | .inl p => (1, Int32.ofNat p, pA0.2.2) | .inr A => pnote A (ps_last sort A) 4 (Int32.ofNat n)
/-- the class's token is the one behind b -/
def ctok (S : ex_S) (n b : Nat) : Prop := S.1 30 1 = Int32.ofNat n ∧ b ≤ n ∧ n ≤ 600 ∧ S.1 30 3 = Int32.ofNat (tk_s (S.1 18) n b) ∧ S.1 30 2 = Int32.ofNat (tk_e (S.1 18) n b) ∧ S.1 30 4 = Int32.ofNat (tk_k (S.1 18) n b) ∧ (tk_k (S.1 18) n b = 2 → S.1 30 5 = tk_v (S.1 18) n b)
theorem ctok.at {S : ex_S} {n b : Nat} (h : ctok S n b) : tc_at S n (tk_e (S.1 18) n b) := ⟨h.1, h.2.2.2.2.1, tk_e_le h.2.1, h.2.2.1⟩
theorem cc16.tok {S S_q : ex_S} {n b : Nat} (h : cc16 S S_q) (hb : tc_at S n b) : ctok S_q n b := by
  obtain ⟨F, h⟩ := h
  obtain ⟨h1, h2, h3, h4⟩ := h n b hb
  have e : S_q.1 18 = S.1 18 := by funext j; exact F.1 18 j (by omega)
  unfold ctok
  rw [e]
  exact ⟨(F.1 30 1 (by decide)).trans hb.1, hb.2.2.1, hb.2.2.2, h1, h2, h3, h4⟩
theorem cc16.t18 {S S_q : ex_S} (h : cc16 S S_q) : S_q.1 18 = S.1 18 := by funext j; exact h.1.1 18 j (by omega)
theorem cc16.ra {S S_q : ex_S} {A : pA} (h : cc16 S S_q) (r : ra S A) : ra S_q A := r.keep (fun k => h.1.1 25 k (by omega)) (fun k => h.1.1 26 k (by omega)) (fun k => h.1.1 27 k (by omega)) (fun k => h.1.1 28 k (by omega))
theorem KV_fx {P : Nat → Nat → Prop} {S T : ex_S} (h : ex_fx P S T) (hP : ∀ a k, P a k → 16 ≤ a) (kv : ex_KV S) : ex_KV T := by
  intro a a1 a2
  refine ⟨fun j => ?_, ?_⟩
  · rw [h.1 a j (fun z => by have := hP a j z; omega)]; exact (kv a a1 a2).1 j
  · rw [h.2]; exact (kv a a1 a2).2
theorem tk_k4 {T : Nat → Int32} {n b : Nat} : tk_k T n b ≤ 4 := by
  unfold tk_k
  split
  · split
    · decide
    · split
      · split <;> decide
      · split <;> decide
  · decide
/-- firstWord -/
theorem cc24.ws {t : Nat} {S S_q : ex_S} {v : Int32} {n b : Nat} (h : cc24 t S v S_q) (kv : ex_KV S) (h1 : 7 ≤ t) (h2 : t < 11) (hb : ctok S n b) : v = pws t (S.1 18) n b := by
  have e := h.2 kv h1 h2 _ _ hb.2.2.2.1 hb.2.2.2.2.1 tk_e_ge (Nat.le_trans (tk_e_le hb.2.1) hb.2.2.1)
  rw [e]
  unfold pws
  have := tk_k4 (T := S.1 18) (n := n) (b := b)
  by_cases hk : tk_k (S.1 18) n b = 1
  · rw [if_pos hk, if_pos (by rw [hb.2.2.2.2.2.1, hk]; rfl)]
  · rw [if_neg hk, if_neg (fun z => hk ((n32_eq (by omega) (by decide)).mp (hb.2.2.2.2.2.1.symm.trans (z.trans (show (1 : Int32) = Int32.ofNat 1 from rfl)))))]
def cc23 (sort : Int32) (S : ex_S) (v : Int32) (S_q : ex_S) : Prop := S_q = S ∧ (ex_KV S → ∀ n b, ctok S n b → v = pfw sort (S.1 18) n b)
theorem ec23 : es23 cc23 := by
  refine ev23 ec24 ?_ ?_ ?_ ?_ ?_ ?_
  · intro a S c r U hU c2
    refine ⟨hU.1, fun kv n b hb => ?_⟩
    have e := hU.ws kv (by decide) (by decide) hb
    unfold pfw pwt pwb
    rw [if_pos c, ← e, if_neg c2, if_pos c]
  · intro a S c r U hU c2
    refine ⟨hU.1, fun kv n b hb => ?_⟩
    have e := hU.ws kv (by decide) (by decide) hb
    unfold pfw pwt pwb
    rw [if_pos c, ← e, if_pos (Classical.not_not.mp c2)]
  · intro a S c0 c r U hU c2
    refine ⟨hU.1, fun kv n b hb => ?_⟩
    have e := hU.ws kv (by decide) (by decide) hb
    unfold pfw pwt pwb
    rw [if_neg c0, if_pos c, ← e, if_neg c2, if_neg c0, if_pos c]
  · intro a S c0 c r U hU c2
    refine ⟨hU.1, fun kv n b hb => ?_⟩
    have e := hU.ws kv (by decide) (by decide) hb
    unfold pfw pwt pwb
    rw [if_neg c0, if_pos c, ← e, if_pos (Classical.not_not.mp c2)]
  · intro a S c0 c r U hU c2
    refine ⟨hU.1, fun kv n b hb => ?_⟩
    have e := hU.ws kv (by decide) (by decide) hb
    unfold pfw pwt pwb
    rw [if_neg c0, if_neg c, ← e, if_neg c2, if_neg c0, if_neg c]
  · intro a S c0 c r U hU c2
    refine ⟨hU.1, fun kv n b hb => ?_⟩
    have e := hU.ws kv (by decide) (by decide) hb
    unfold pfw pwt pwb
    rw [if_neg c0, if_neg c, ← e, if_pos (Classical.not_not.mp c2)]
/-- Arrays.fill -/
def cc13 (a : Nat) (v : Int32) (S S_q : ex_S) : Prop := ex_fx (fun b _ => b = a) S S_q ∧ ∀ n, S.2.2.2.1 a = n → n ≤ 1000 → ∀ j, S_q.1 a j = if j < n then v else S.1 a j
def ci13 (a : Nat) (v : Int32) (S : ex_S) (x y : Int32) (T : ex_S) : Prop := ex_fx (fun b _ => b = a) S T ∧ ∀ n, S.2.2.2.1 a = n → n ≤ 1000 → y = Int32.ofNat n ∧ ∃ i, i ≤ n ∧ x = Int32.ofNat i ∧ ∀ j, T.1 a j = if j < i then v else S.1 a j
theorem ec13 : es13 cc13 := by
  refine ev13 (I5 := ci13) ?_ ?_ ?_
  · intro a v S
    refine ⟨ex_fx.refl _ S, fun n e hn => ⟨by rw [e], 0, by omega, rfl, fun j => by rw [if_neg (by omega)]⟩⟩
  · intro a v S x y T hI c
    refine ⟨hI.1, fun n e hn => ?_⟩
    obtain ⟨h1, i, i1, i2, i3⟩ := hI.2 n e hn
    rw [h1, i2, n32_le (by omega) (by omega)] at c
    have : i = n := by omega
    subst this
    exact i3
  · intro a v S x y T hI c
    refine ⟨hI.1.sx rfl, fun n e hn => ?_⟩
    obtain ⟨h1, i, i1, i2, i3⟩ := hI.2 n e hn
    rw [h1, i2, n32_le (by omega) (by omega)] at c
    refine ⟨h1, i + 1, by omega, by rw [i2, n32_s], fun j => ?_⟩
    rw [ex_sx_at, i2, n32_tn (by omega), i3]
    by_cases hj : j = i
    · rw [if_pos ⟨rfl, hj⟩, if_pos (by omega)]
    · rw [if_neg (fun z => hj z.2)]
      by_cases hl : j < i
      · rw [if_pos hl, if_pos (by omega)]
      · rw [if_neg hl, if_neg (by omega)]
/-- readLine -/
def pP37 (a k : Nat) : Prop := (a = 30 ∧ 2 ≤ k) ∨ (a = 25 ∧ 1 ≤ k) ∨ a = 26 ∨ a = 27 ∨ a = 28 ∨ a = 29
/-- what readLine is asked: word w, token behind b0, reader A -/
def pq37 (S : ex_S) (w n b0 : Nat) (A : pA) : Prop := w < 13 ∧ ctok S n b0 ∧ ra S A ∧ ex_KV S ∧ S.2.2.2.1 29 = 4
theorem nb_le {T : Nat → Int32} {n b : Nat} (hb : b ≤ n) (i : Nat) : nb T n b i ≤ n := by
  induction i with
  | zero => exact hb
  | succ i ih => exact tk_e_le ih
theorem nb_mono {T : Nat → Int32} {n b : Nat} (i : Nat) : b ≤ nb T n b i := by
  induction i with
  | zero => exact Nat.le_refl _
  | succ i ih => exact Nat.le_trans ih (Nat.le_trans tk_s_ge tk_e_ge)
def cc37 (w : Int32) (S : ex_S) (v : Int32) (S_q : ex_S) : Prop := ex_fx pP37 S S_q ∧ (w = -1 → v = 0 ∧ S_q = S) ∧ ∀ i n b0 A, w = Int32.ofNat i → pq37 S i n b0 A → (∀ p, pl_fail (S.1 18) n i (tk_e (S.1 18) n b0) = some p → v = 0 ∧ S_q.1 30 3 = Int32.ofNat p) ∧ (pl_fail (S.1 18) n i (tk_e (S.1 18) n b0) = none → v = 1 ∧ tc_at S_q n (pl_end (S.1 18) n i (tk_e (S.1 18) n b0)) ∧ ra S_q (pline (S.1 18) n i (tk_s (S.1 18) n b0) (tk_e (S.1 18) n b0) A))
def ci37 (w : Int32) (S : ex_S) (x : Int32) (T : ex_S) : Prop := ex_fx pP37 S T ∧ w ≠ -1 ∧ ∀ i n b0 A, w = Int32.ofNat i → pq37 S i n b0 A → ∃ j, j ≤ pnl i ∧ x = Int32.ofNat j ∧ tc_at T n (nb (S.1 18) n (tk_e (S.1 18) n b0) j) ∧ pl_f (S.1 18) n (pnl i - j) (nb (S.1 18) n (tk_e (S.1 18) n b0) j) = pl_f (S.1 18) n (pnl i) (tk_e (S.1 18) n b0) ∧ (∀ k, k < j → T.1 29 k = tk_v (S.1 18) n (nb (S.1 18) n (tk_e (S.1 18) n b0) k)) ∧ (∀ k, j ≤ k → k < 4 → T.1 29 k = -1) ∧ ra T (pan (S.1 18) n i (tk_e (S.1 18) n b0) (pnote A (pmany i A) 3 (Int32.ofNat (tk_s (S.1 18) n b0))) j)
theorem pnl3 {w : Nat} (h : w < 13) : pnl w ≤ 3 ∧ 1 ≤ pnl w := by
  have k : ∀ w : Fin 13, pnl w.val ≤ 3 ∧ 1 ≤ pnl w.val := by decide
  exact k ⟨w, h⟩
theorem pnote_0 {A : pA} {c : Bool} {f p : Int32} (hf : f ≠ 0) (h : pf (pnote A c f p) = 0) : pf A = 0 ∧ c = false ∧ pnote A c f p = A := by
  unfold pnote at h ⊢
  by_cases hc : pf A = 0 ∧ c = true
  · rw [if_pos hc] at h; exact absurd h hf
  · rw [if_neg hc] at h ⊢
    refine ⟨h, ?_, rfl⟩
    cases c with
    | false => rfl
    | true => exact absurd ⟨h, rfl⟩ hc
theorem pan_0 {T : Nat → Int32} {n w b : Nat} {A : pA} : ∀ {i : Nat}, pf (pan T n w b A i) = 0 → pan T n w b A i = A ∧ pf A = 0
  | 0, h => ⟨rfl, h⟩
  | i + 1, h => by
    obtain ⟨h1, h2, h3⟩ := pnote_0 (by decide) h
    have e : pan T n w b A (i + 1) = pan T n w b A i := h3
    obtain ⟨e1, e2⟩ := pan_0 h1
    exact ⟨e.trans e1, e2⟩
theorem pan_room {T : Nat → Int32} {n w b : Nat} {A : pA} {p : Int32} {i : Nat} (hw : w < 13) (hA : pf A = 0 → pic A ≤ 50 ∧ prc A ≤ 16) (h : pf (pan T n w b (pnote A (pmany w A) 3 p) i) = 0) : proom w (pan T n w b (pnote A (pmany w A) 3 p) i) := by
  obtain ⟨e1, e2⟩ := pan_0 h
  obtain ⟨e3, e4, e5⟩ := pnote_0 (by decide) e2
  rw [e1, e5]
  obtain ⟨h1, h2⟩ := hA e3
  unfold pmany at e4
  have e6 := of_decide_eq_false e4
  unfold pthere at e6
  unfold proom
  rcases (show w = 0 ∨ w = 1 ∨ w = 2 ∨ w = 3 ∨ w = 4 ∨ w = 5 ∨ w = 6 ∨ w = 7 ∨ w = 8 ∨ w = 9 ∨ w = 10 ∨ w = 11 ∨ w = 12 by omega) with z | z | z | z | z | z | z | z | z | z | z | z | z <;> subst z
  · exact ⟨fun z => absurd z (by decide), fun _ => by rw [if_neg (by decide), show pmo 0 = 10 from rfl] at e6; omega⟩
  · exact ⟨fun _ => by rw [if_pos rfl, show pmo 1 = 16 from rfl] at e6; omega, fun z => by omega⟩
  · exact ⟨fun z => absurd z (by decide), fun z => by omega⟩
  · exact ⟨fun z => absurd z (by decide), fun z => by omega⟩
  · exact ⟨fun z => absurd z (by decide), fun _ => by rw [if_neg (by decide), show pmo 4 = 50 from rfl] at e6; omega⟩
  · exact ⟨fun z => absurd z (by decide), fun _ => by rw [if_neg (by decide), show pmo 5 = 50 from rfl] at e6; omega⟩
  · exact ⟨fun z => absurd z (by decide), fun _ => by rw [if_neg (by decide), show pmo 6 = 50 from rfl] at e6; omega⟩
  · exact ⟨fun z => absurd z (by decide), fun _ => by rw [if_neg (by decide), show pmo 7 = 8 from rfl] at e6; omega⟩
  · exact ⟨fun z => absurd z (by decide), fun _ => by rw [if_neg (by decide), show pmo 8 = 8 from rfl] at e6; omega⟩
  · exact ⟨fun z => absurd z (by decide), fun _ => by rw [if_neg (by decide), show pmo 9 = 8 from rfl] at e6; omega⟩
  · exact ⟨fun z => absurd z (by decide), fun _ => by rw [if_neg (by decide), show pmo 10 = 8 from rfl] at e6; omega⟩
  · exact ⟨fun z => absurd z (by decide), fun _ => by rw [if_neg (by decide), show pmo 11 = 8 from rfl] at e6; omega⟩
  · exact ⟨fun z => absurd z (by decide), fun _ => by rw [if_neg (by decide), show pmo 12 = 8 from rfl] at e6; omega⟩
end
section
theorem ra.congr {S : ex_S} {A B : pA} (h : ra S A) (e1 : pf B = pf A) (e2 : pp B = pp A) (e3 : pic B = pic A) (e4 : prc B = prc A) (e5 : pst B = pst A) (e6 : phi B = phi A) (e7 : ∀ k j, j < 4 → pit B k j = pit A k j) (e8 : ∀ k j, j < 4 → prd B k j = prd A k j) (e9 : ∀ k, pnr B k = pnr A k) : ra S B := by
  obtain ⟨a, b, c⟩ := h
  refine ⟨by rw [e1]; exact a, by rw [e2]; exact b, fun z => ?_⟩
  obtain ⟨c1, c2, c3, c4, c5, c6, c7, c8, c9⟩ := c (e1 ▸ z)
  exact ⟨by rw [e3]; exact c1, by rw [e3]; exact c2, by rw [e4]; exact c3, by rw [e4]; exact c4, by rw [e5]; exact c5, by rw [e6]; exact c6, fun k j hk hj => by rw [e7 k j hj]; exact c7 k j (e3 ▸ hk) hj, fun k j hk hj => by rw [e8 k j hj]; exact c8 k j (e4 ▸ hk) hj, fun k hk => by rw [e9]; exact c9 k hk⟩
theorem pkeep_0 {l : Nat → Int32} {A : pA} : pkeep 0 l A = (pf A, pp A, pic A + 1, fun k j => if k = pic A then l j else pit A k j, A.2.2.2.2) := if_pos rfl
theorem pkeep_1 {l : Nat → Int32} {A : pA} : pkeep 1 l A = (pf A, pp A, pic A, pit A, prc A + 1, fun k j => if k = prc A then l j else prd A k j, A.2.2.2.2.2.2) := by
  unfold pkeep; rw [if_neg (by decide), if_pos rfl]
theorem pkeep_2 {l : Nat → Int32} {A : pA} : pkeep 2 l A = (pf A, pp A, pic A, pit A, prc A, prd A, fun k => if k = (l 0).toNatClampNeg then pnr A k ||| (1 <<< (l 1 &&& 31)) else pnr A k, pst A, phi A) := by
  unfold pkeep; rw [if_neg (by decide), if_neg (by decide), if_pos rfl]
theorem pkeep_3 {l : Nat → Int32} {A : pA} : pkeep 3 l A = (pf A, pp A, pic A, pit A, prc A, prd A, pnr A, l 0, phi A) := by
  unfold pkeep; rw [if_neg (by decide), if_neg (by decide), if_neg (by decide), if_pos rfl]
def pkh (w : Nat) (l : Nat → Int32) (A : pA) : Int32 := if w < 7 then (if w = 4 then pmx (pmx (phi A) (l 0)) (l 1) else pmx (phi A) (l 0)) else phi A
def pkt (w : Nat) : Int32 := if w < 7 then Int32.ofNat (w - 4) else Int32.ofNat (w - 7)
theorem pkeep_4 {w : Nat} {l : Nat → Int32} {A : pA} (hw : 4 ≤ w) : pkeep w l A = (pf A, pp A, pic A + 1, fun k j => if k = pic A then (if j = 0 then pkt w else l (j - 1)) else pit A k j, prc A, prd A, pnr A, pst A, pkh w l A) := by
  unfold pkeep; rw [if_neg (by omega), if_neg (by omega), if_neg (by omega), if_neg (by omega)]; rfl
/-- lines that are alike in their four numbers are kept alike -/
theorem ra.lcongr {S : ex_S} {A : pA} {w : Nat} {l l_q : Nat → Int32} (h : ra S (pkeep w l A)) (e : ∀ j, j < 4 → l_q j = l j) : ra S (pkeep w l_q A) := by
  by_cases hw : 4 ≤ w
  · rw [pkeep_4 hw] at h ⊢
    have eh : pkh w l_q A = pkh w l A := by unfold pkh; rw [e 0 (by decide), e 1 (by decide)]
    rw [eh]
    refine h.congr rfl rfl rfl rfl rfl rfl (fun k j hj => ?_) (fun _ _ _ => rfl) (fun _ => rfl)
    show (if k = pic A then (if j = 0 then pkt w else l_q (j - 1)) else pit A k j) = if k = pic A then (if j = 0 then pkt w else l (j - 1)) else pit A k j
    rw [e (j - 1) (by omega)]
  · rcases (show w = 0 ∨ w = 1 ∨ w = 2 ∨ w = 3 by omega) with z | z | z | z <;> subst z
    · rw [pkeep_0] at h ⊢
      refine h.congr rfl rfl rfl rfl rfl rfl (fun k j hj => ?_) (fun _ _ _ => rfl) (fun _ => rfl)
      show (if k = pic A then l_q j else pit A k j) = if k = pic A then l j else pit A k j
      rw [e j hj]
    · rw [pkeep_1] at h ⊢
      refine h.congr rfl rfl rfl rfl rfl rfl (fun _ _ _ => rfl) (fun k j hj => ?_) (fun _ => rfl)
      show (if k = prc A then l_q j else prd A k j) = if k = prc A then l j else prd A k j
      rw [e j hj]
    · rw [pkeep_2] at h ⊢
      rw [e 0 (by decide), e 1 (by decide)]; exact h
    · rw [pkeep_3] at h ⊢
      rw [e 0 (by decide)]; exact h
theorem pl_fy {T : Nat → Int32} {n c j b : Nat} (hj : j < c) (hk : tk_k T n (nb T n b j) = 2) : pl_f T n (c - j) (nb T n b j) = pl_f T n (c - (j + 1)) (nb T n b (j + 1)) := by
  rw [show c - j = (c - (j + 1)) + 1 by omega]
  exact if_pos hk
theorem pl_fn {T : Nat → Int32} {n c j b : Nat} (hj : j < c) (hk : ¬ tk_k T n (nb T n b j) = 2) : pl_f T n (c - j) (nb T n b j) = some (tk_s T n (nb T n b j)) := by
  rw [show c - j = (c - (j + 1)) + 1 by omega]
  exact if_neg hk
theorem pbad_c {w i : Nat} {l l_q : Nat → Int32} (h : ∀ k, k ≤ i → l_q k = l k) : pbad w i l_q = pbad w i l := by
  unfold pbad
  by_cases hi : i = 1
  · subst hi; rw [h 0 (by decide), h 1 (by decide)]
  · rw [h i (Nat.le_refl _), decide_eq_false hi, Bool.false_and, Bool.false_and]
/-- the reader behind a token: the tape, the reader's facts -/
theorem cc37_tok {S T U : ex_S} {n b : Nat} (F : ex_fx pP37 S T) (hU : cc16 T U) (hb : tc_at T n b) : ctok U n b ∧ U.1 18 = S.1 18 ∧ ex_fx pP37 S U ∧ ∀ k, U.1 29 k = T.1 29 k := by
  have e : T.1 18 = S.1 18 := by funext j; exact F.1 18 j (by unfold pP37; omega)
  exact ⟨hU.tok hb, hU.t18.trans e, F.trans (hU.1.mono (fun a k z => by unfold pP37; omega)), fun k => hU.1.1 29 k (by omega)⟩
/-- the line's end -/
theorem cc37_end {S U V : ex_S} {w : Int32} {i n b0 b : Nat} {A : pA} (q : pq37 S i n b0 A) (e : w = Int32.ofNat i) (hU18 : U.1 18 = S.1 18) (tU : ctok U n b) (c : U.1 30 4 = 3) (hV : cc40 w U V) (rU : ra U (pan (S.1 18) n i (tk_e (S.1 18) n b0) (pnote A (pmany i A) 3 (Int32.ofNat (tk_s (S.1 18) n b0))) (pnl i))) (hb : pl_end (S.1 18) n i (tk_e (S.1 18) n b0) = tk_e (S.1 18) n b) (hl : ∀ k, k < 4 → U.1 29 k = pll (S.1 18) n i (tk_e (S.1 18) n b0) k) (hf : pl_f (S.1 18) n (pnl i) (tk_e (S.1 18) n b0) = none) (ht : pl_t (S.1 18) n i (nb (S.1 18) n (tk_e (S.1 18) n b0) (pnl i)) = pl_s (S.1 18) n b) : (∀ p, pl_fail (S.1 18) n i (tk_e (S.1 18) n b0) = some p → (1 : Int32) = 0 ∧ V.1 30 3 = Int32.ofNat p) ∧ (pl_fail (S.1 18) n i (tk_e (S.1 18) n b0) = none → (1 : Int32) = 1 ∧ tc_at V n (pl_end (S.1 18) n i (tk_e (S.1 18) n b0)) ∧ ra V (pline (S.1 18) n i (tk_s (S.1 18) n b0) (tk_e (S.1 18) n b0) A)) := by
  have k3 : tk_k (S.1 18) n b = 3 := by
    have h4 := tU.2.2.2.2.2.1
    have := tk_k4 (T := U.1 18) (n := n) (b := b)
    rw [c] at h4
    rw [← hU18]
    exact ((n32_eq (by decide) (by omega)).mp ((show (Int32.ofNat 3 : Int32) = 3 from rfl).trans h4)).symm
  have no : pl_fail (S.1 18) n i (tk_e (S.1 18) n b0) = none := by
    unfold pl_fail; rw [hf]; show pl_t _ _ _ _ = none
    rw [ht]; unfold pl_s; rw [if_pos k3]
  refine ⟨fun p z => (by rw [no] at z; cases z), fun _ => ⟨rfl, ?_, ?_⟩⟩
  · have t1 := tU.at
    rw [hU18] at t1
    refine ⟨(hV.1.1 30 1 (by unfold pP40; omega)).trans t1.1, ?_, by rw [hb]; exact t1.2.2.1, t1.2.2.2⟩
    rw [hV.1.1 30 2 (by unfold pP40; omega), t1.2.1, hb]
  · obtain ⟨qw, qt, qr, qk, ql⟩ := q
    have hr := hV.2 i _ e qw rU (fun z => pan_room qw (fun z0 => by
      obtain ⟨_, r2, _, r4, _⟩ := qr.2.2 z0; exact ⟨r2, r4⟩) z)
    unfold pline
    split at hr
    · rename_i z; rw [if_pos z]; exact hr.lcongr (fun k hk => (hl k hk).symm)
    · rename_i z; rw [if_neg z]; exact hr
theorem cc37_bad {S U : ex_S} {i n b0 b : Nat} {v : Int32} (hv : v = 0) (hU18 : U.1 18 = S.1 18) (tU : ctok U n b) (hf : pl_fail (S.1 18) n i (tk_e (S.1 18) n b0) = some (tk_s (S.1 18) n b)) {A : pA} : (∀ p, pl_fail (S.1 18) n i (tk_e (S.1 18) n b0) = some p → v = 0 ∧ U.1 30 3 = Int32.ofNat p) ∧ (pl_fail (S.1 18) n i (tk_e (S.1 18) n b0) = none → v = 1 ∧ tc_at U n (pl_end (S.1 18) n i (tk_e (S.1 18) n b0)) ∧ ra U (pline (S.1 18) n i (tk_s (S.1 18) n b0) (tk_e (S.1 18) n b0) A)) := by
  refine ⟨fun p z => ?_, fun z => (by rw [hf] at z; cases z)⟩
  rw [hf] at z
  cases z
  refine ⟨hv, ?_⟩
  rw [tU.2.2.2.1, hU18]
theorem ec37 : es37 cc37 := by
  refine ev37 (I22 := ci37) ec13 ec16 ec24 ec38 ec39 ec40 ?_ ?_ ?_ ?_ ?_ ?_ ?_ ?_ ?_
  · intro w S c U hU V hV
    have FU : ex_fx pP37 S U := hU.1.mono (fun a k z => by unfold pP37; omega)
    have FV : ex_fx pP37 S V := FU.trans (hV.1.mono (fun a k z => by unfold pP37; omega))
    refine ⟨FV, c, fun i n b0 A e q => ?_⟩
    obtain ⟨qw, qt, qr, qk, ql⟩ := q
    have v1 := hV.2 4 (by rw [hU.1.2]; exact ql) (by decide)
    have e25 : ∀ a k, a ≠ 29 → V.1 a k = U.1 a k := fun a k h => hV.1.1 a k h
    refine ⟨0, Nat.zero_le _, rfl, ?_, rfl, fun k hk => absurd hk (by omega), fun k _ hk => by rw [v1, if_pos hk], ?_⟩
    · have t := qt.at
      exact ⟨(FV.1 30 1 (by unfold pP37; omega)).trans t.1, by rw [e25 30 2 (by decide), hU.1.1 30 2 (by omega)]; exact t.2.1, t.2.2.1, t.2.2.2⟩
    · have r := hU.2 i A e qw qr
      rw [qt.2.2.2.1] at r
      exact r.keep (fun k => e25 25 k (by decide)) (fun k => e25 26 k (by decide)) (fun k => e25 27 k (by decide)) (fun k => e25 28 k (by decide))
  · intro w S c
    have c_q := Classical.not_not.mp c
    exact ⟨ex_fx.refl _ S, fun _ => ⟨rfl, rfl⟩, fun i n b0 A e q => absurd (e.symm.trans c_q) (by
      intro z
      have := congrArg Int32.toInt z
      rw [n32_i (by have := q.1; omega)] at this
      have e1 : (-1 : Int32).toInt = -1 := rfl
      omega)⟩
  · intro w S x T hI c1 c2 U hU c3 V hV
    obtain ⟨F, hw, hI⟩ := hI
    refine ⟨(F.trans (hU.1.mono (fun a k z => by unfold pP37; omega))).trans (hV.1.mono (fun a k z => by unfold pP40 at z; unfold pP37; omega)), fun z => absurd z hw, fun i n b0 A e q => ?_⟩
    obtain ⟨j, j1, j2, j3, j4, j5, j6, j7⟩ := hI i n b0 A e q
    have p3 := pnl3 q.1
    have hi := q.1
    rw [e, n32_tn (by omega), p_nl i q.1, j2, n32_le (by omega) (by omega)] at c1
    have ej : j = pnl i := by omega
    subst ej
    obtain ⟨tU, u18, FU, u29⟩ := cc37_tok F hU j3
    have i0 : ¬ i = 0 := fun z => c2 (by rw [e, z]; rfl)
    refine cc37_end q e u18 tU c3 hV (hU.ra j7) ?_ (fun k hk => ?_) ?_ ?_
    · unfold pl_end; rw [if_neg i0]
    · rw [u29]; unfold pll
      by_cases hkk : k < pnl i
      · rw [if_pos hkk]; exact j5 k hkk
      · rw [if_neg hkk, if_neg (fun z => i0 z.1)]; exact j6 k (by omega) hk
    · rw [← j4, Nat.sub_self]; rfl
    · unfold pl_t; rw [if_neg i0]
  · intro w S x T hI c1 c2 U hU c3
    obtain ⟨F, hw, hI⟩ := hI
    refine ⟨F.trans (hU.1.mono (fun a k z => by unfold pP37; omega)), fun z => absurd z hw, fun i n b0 A e q => ?_⟩
    obtain ⟨j, j1, j2, j3, j4, j5, j6, j7⟩ := hI i n b0 A e q
    have p3 := pnl3 q.1
    have hi := q.1
    rw [e, n32_tn (by omega), p_nl i q.1, j2, n32_le (by omega) (by omega)] at c1
    have ej : j = pnl i := by omega
    subst ej
    obtain ⟨tU, u18, FU, u29⟩ := cc37_tok F hU j3
    have i0 : ¬ i = 0 := fun z => c2 (by rw [e, z]; rfl)
    refine cc37_bad rfl u18 tU ?_
    unfold pl_fail
    rw [← j4, Nat.sub_self]
    show pl_t _ _ _ _ = _
    unfold pl_t pl_s
    rw [if_neg i0, if_neg]
    intro z
    rw [tU.2.2.2.2.2.1, u18, z] at c3
    exact c3 rfl
  · intro w S x T hI c1 c2 U hU r U2 hU2 c3 U3 hU3 c4 V hV
    obtain ⟨F, hw, hI⟩ := hI
    obtain ⟨e22, hU2⟩ : U2 = U ∧ _ := ⟨hU2.1, hU2⟩
    subst e22
    have F2 : ex_fx pP37 S (ex_sx U2 29 3 r) := (F.trans (hU.1.mono (fun a k z => by unfold pP37; omega))).sx (by unfold pP37; omega)
    have F3 : ex_fx pP37 S U3 := F2.trans (hU3.1.mono (fun a k z => by unfold pP37; omega))
    refine ⟨F3.trans (hV.1.mono (fun a k z => by unfold pP40 at z; unfold pP37; omega)), fun z => absurd z hw, fun i n b0 A e q => ?_⟩
    obtain ⟨j, j1, j2, j3, j4, j5, j6, j7⟩ := hI i n b0 A e q
    have p3 := pnl3 q.1
    have hi := q.1
    rw [e, n32_tn (by omega), p_nl i q.1, j2, n32_le (by omega) (by omega)] at c1
    have ej : j = pnl i := by omega
    subst ej
    obtain ⟨tU, u18, FU, u29⟩ := cc37_tok F hU j3
    have i0 : i = 0 := n32_w q.1 (by decide) (e.symm.trans ((Classical.not_not.mp c2).trans (show (0 : Int32) = Int32.ofNat 0 from rfl)))
    have kvU : ex_KV U2 := KV_fx FU (fun a k z => by unfold pP37 at z; omega) q.2.2.2.1
    have er := hU2.ws kvU (by decide) (by decide) tU
    rw [u18] at er
    have tU2 : tc_at (ex_sx U2 29 3 r) n (tk_e (S.1 18) n (nb (S.1 18) n (tk_e (S.1 18) n b0) (pnl i))) := by
      have t := tU.at
      rw [u18] at t
      exact t
    have s18 : (ex_sx U2 29 3 r).1 18 = S.1 18 := by funext k; exact F2.1 18 k (by unfold pP37; omega)
    have t3 := hU3.tok tU2
    have e3 : U3.1 18 = S.1 18 := hU3.t18.trans s18
    have rU : ra (ex_sx U2 29 3 r) (pan (S.1 18) n i (tk_e (S.1 18) n b0) (pnote A (pmany i A) 3 (Int32.ofNat (tk_s (S.1 18) n b0))) (pnl i)) := (hU.ra j7).keep (fun _ => rfl) (fun _ => rfl) (fun _ => rfl) (fun _ => rfl)
    refine cc37_end q e e3 t3 c4 hV (hU3.ra rU) ?_ (fun k hk => ?_) ?_ ?_
    · unfold pl_end; rw [if_pos i0]
    · rw [hU3.1.1 29 k (by omega), ex_sx_at]
      unfold pll
      have pn : pnl i = 3 := by rw [i0]; rfl
      by_cases hkk : k < pnl i
      · rw [if_neg (by omega), if_pos hkk, u29]; exact j5 k hkk
      · have k3 : k = 3 := by omega
        rw [if_pos ⟨rfl, k3⟩, if_neg hkk, if_pos ⟨i0, k3⟩, er, pn]
    · rw [← j4, Nat.sub_self]; rfl
    · unfold pl_t; rw [if_pos i0, if_neg (by rw [← er]; exact c3)]
  · intro w S x T hI c1 c2 U hU r U2 hU2 c3 U3 hU3 c4
    obtain ⟨F, hw, hI⟩ := hI
    obtain ⟨e22, hU2⟩ : U2 = U ∧ _ := ⟨hU2.1, hU2⟩
    subst e22
    have F2 : ex_fx pP37 S (ex_sx U2 29 3 r) := (F.trans (hU.1.mono (fun a k z => by unfold pP37; omega))).sx (by unfold pP37; omega)
    have F3 : ex_fx pP37 S U3 := F2.trans (hU3.1.mono (fun a k z => by unfold pP37; omega))
    refine ⟨F3, fun z => absurd z hw, fun i n b0 A e q => ?_⟩
    obtain ⟨j, j1, j2, j3, j4, j5, j6, j7⟩ := hI i n b0 A e q
    have p3 := pnl3 q.1
    have hi := q.1
    rw [e, n32_tn (by omega), p_nl i q.1, j2, n32_le (by omega) (by omega)] at c1
    have ej : j = pnl i := by omega
    subst ej
    obtain ⟨tU, u18, FU, u29⟩ := cc37_tok F hU j3
    have i0 : i = 0 := n32_w q.1 (by decide) (e.symm.trans ((Classical.not_not.mp c2).trans (show (0 : Int32) = Int32.ofNat 0 from rfl)))
    have kvU : ex_KV U2 := KV_fx FU (fun a k z => by unfold pP37 at z; omega) q.2.2.2.1
    have er := hU2.ws kvU (by decide) (by decide) tU
    rw [u18] at er
    have tU2 : tc_at (ex_sx U2 29 3 r) n (tk_e (S.1 18) n (nb (S.1 18) n (tk_e (S.1 18) n b0) (pnl i))) := by
      have t := tU.at
      rw [u18] at t
      exact t
    have s18 : (ex_sx U2 29 3 r).1 18 = S.1 18 := by funext k; exact F2.1 18 k (by unfold pP37; omega)
    have t3 := hU3.tok tU2
    have e3 : U3.1 18 = S.1 18 := hU3.t18.trans s18
    refine cc37_bad rfl e3 t3 ?_
    unfold pl_fail
    rw [← j4, Nat.sub_self]
    show pl_t _ _ _ _ = _
    unfold pl_t pl_s
    rw [if_pos i0, if_neg (by rw [← er]; exact c3), if_neg]
    intro z
    rw [t3.2.2.2.2.2.1, e3, z] at c4
    exact c4 rfl
  · intro w S x T hI c1 c2 U hU r U2 hU2 c3
    obtain ⟨F, hw, hI⟩ := hI
    obtain ⟨e22, hU2⟩ : U2 = U ∧ _ := ⟨hU2.1, hU2⟩
    subst e22
    have F2 : ex_fx pP37 S (ex_sx U2 29 3 r) := (F.trans (hU.1.mono (fun a k z => by unfold pP37; omega))).sx (by unfold pP37; omega)
    refine ⟨F2, fun z => absurd z hw, fun i n b0 A e q => ?_⟩
    obtain ⟨j, j1, j2, j3, j4, j5, j6, j7⟩ := hI i n b0 A e q
    have p3 := pnl3 q.1
    have hi := q.1
    rw [e, n32_tn (by omega), p_nl i q.1, j2, n32_le (by omega) (by omega)] at c1
    have ej : j = pnl i := by omega
    subst ej
    obtain ⟨tU, u18, FU, u29⟩ := cc37_tok F hU j3
    have i0 : i = 0 := n32_w q.1 (by decide) (e.symm.trans ((Classical.not_not.mp c2).trans (show (0 : Int32) = Int32.ofNat 0 from rfl)))
    have kvU : ex_KV U2 := KV_fx FU (fun a k z => by unfold pP37 at z; omega) q.2.2.2.1
    have er := hU2.ws kvU (by decide) (by decide) tU
    rw [u18] at er
    have t2 : ctok (ex_sx U2 29 3 r) n (nb (S.1 18) n (tk_e (S.1 18) n b0) (pnl i)) := tU
    have s18 : (ex_sx U2 29 3 r).1 18 = S.1 18 := by funext k; exact F2.1 18 k (by unfold pP37; omega)
    refine cc37_bad rfl s18 t2 ?_
    unfold pl_fail
    rw [← j4, Nat.sub_self]
    show pl_t _ _ _ _ = _
    unfold pl_t
    rw [if_pos i0, if_pos (by rw [← er]; exact Classical.not_not.mp c3)]
  · intro w S x T hI c1 U hU c2 V hV
    obtain ⟨F, hw, hI⟩ := hI
    have F1 : ex_fx pP37 S (ex_sx U 29 x.toNatClampNeg (U.1 30 5)) := (F.trans (hU.1.mono (fun a k z => by unfold pP37; omega))).sx (by unfold pP37; omega)
    have F2 : ex_fx pP37 S V := F1.trans (hV.fx.mono (fun a k z => by unfold pP37; omega))
    refine ⟨F2, hw, fun i n b0 A e q => ?_⟩
    obtain ⟨j, j1, j2, j3, j4, j5, j6, j7⟩ := hI i n b0 A e q
    have p3 := pnl3 q.1
    have hi := q.1
    rw [e, n32_tn (by omega), p_nl i q.1, j2, n32_le (by omega) (by omega)] at c1
    obtain ⟨tU, u18, FU, u29⟩ := cc37_tok F hU j3
    have k2 : tk_k (S.1 18) n (nb (S.1 18) n (tk_e (S.1 18) n b0) j) = 2 := by
      have h4 := tU.2.2.2.2.2.1
      have := tk_k4 (T := S.1 18) (n := n) (b := nb (S.1 18) n (tk_e (S.1 18) n b0) j)
      rw [c2, u18] at h4
      exact ((n32_eq (by decide) (by omega)).mp ((show (Int32.ofNat 2 : Int32) = 2 from rfl).trans h4)).symm
    have ev : U.1 30 5 = tk_v (S.1 18) n (nb (S.1 18) n (tk_e (S.1 18) n b0) j) := by
      have := tU.2.2.2.2.2.2 (by rw [u18]; exact k2)
      rw [u18] at this; exact this
    have v29 : ∀ k, V.1 29 k = if k = j then tk_v (S.1 18) n (nb (S.1 18) n (tk_e (S.1 18) n b0) j) else T.1 29 k := by
      intro k
      rw [hV.fx.1 29 k (by omega), ex_sx_at, j2, n32_tn (by omega)]
      by_cases hk : k = j
      · rw [if_pos ⟨rfl, hk⟩, if_pos hk, ev]
      · rw [if_neg (fun z => hk z.2), if_neg hk, u29]
    refine ⟨j + 1, by omega, by rw [j2, n32_s], ?_, ?_, fun k hk => ?_, fun k hk hk4 => ?_, ?_⟩
    · have t := tU.at
      rw [u18] at t
      exact ⟨(F2.1 30 1 (by unfold pP37; omega)).trans ((F.1 30 1 (by unfold pP37; omega)).symm.trans j3.1), by rw [hV.fx.1 30 2 (by omega), ex_sx_ne (by omega)]; exact t.2.1, t.2.2.1, t.2.2.2⟩
    · rw [← j4, pl_fy (by omega) k2]
    · rw [v29]
      by_cases hkj : k = j
      · rw [if_pos hkj, hkj]
      · rw [if_neg hkj]; exact j5 k (by omega)
    · rw [v29, if_neg (by omega)]; exact j6 k (by omega) hk4
    · have hV' := hV
      rw [e, j2] at hV'
      have rU : ra (ex_sx U 29 x.toNatClampNeg (U.1 30 5)) (pan (S.1 18) n i (tk_e (S.1 18) n b0) (pnote A (pmany i A) 3 (Int32.ofNat (tk_s (S.1 18) n b0))) j) := (hU.ra j7).keep (fun k => ex_sx_ne (by omega)) (fun k => ex_sx_ne (by omega)) (fun k => ex_sx_ne (by omega)) (fun k => ex_sx_ne (by omega))
      rw [← j2] at hV'
      have r := cc39.ra (w := i) (i := j) (by rw [← j2]; exact hV') q.1 (by omega) rU
      have es : (ex_sx U 29 x.toNatClampNeg (U.1 30 5)).1 30 3 = Int32.ofNat (tk_s (S.1 18) n (nb (S.1 18) n (tk_e (S.1 18) n b0) j)) := by
        rw [ex_sx_ne (by omega), tU.2.2.2.1, u18]
      have eb : pbad i j ((ex_sx U 29 x.toNatClampNeg (U.1 30 5)).1 29) = pbad i j (pll (S.1 18) n i (tk_e (S.1 18) n b0)) := by
        refine pbad_c (fun k hk => ?_)
        have ek : pll (S.1 18) n i (tk_e (S.1 18) n b0) k = tk_v (S.1 18) n (nb (S.1 18) n (tk_e (S.1 18) n b0) k) := by unfold pll; rw [if_pos (by omega)]
        rw [ek, ← hV.fx.1 29 k (by omega), v29]
        by_cases hkj : k = j
        · rw [if_pos hkj, hkj]
        · rw [if_neg hkj]; exact j5 k (by omega)
      rw [es, eb] at r
      exact r
  · intro w S x T hI c1 U hU c2
    obtain ⟨F, hw, hI⟩ := hI
    refine ⟨F.trans (hU.1.mono (fun a k z => by unfold pP37; omega)), fun z => absurd z hw, fun i n b0 A e q => ?_⟩
    obtain ⟨j, j1, j2, j3, j4, j5, j6, j7⟩ := hI i n b0 A e q
    have p3 := pnl3 q.1
    have hi := q.1
    rw [e, n32_tn (by omega), p_nl i q.1, j2, n32_le (by omega) (by omega)] at c1
    obtain ⟨tU, u18, FU, u29⟩ := cc37_tok F hU j3
    refine cc37_bad rfl u18 tU ?_
    unfold pl_fail
    rw [← j4, pl_fn (by omega) (fun z => c2 (by rw [tU.2.2.2.2.2.1, u18, z]; rfl))]
end
section
/-! ALL LINES, on the class's side -/
theorem pws_7 (T : Nat → Int32) (n b : Nat) : pws 7 T n b = -1 ∨ ∃ w, w ≤ 2 ∧ pws 7 T n b = Int32.ofNat w := by
  unfold pws
  split
  · rw [wa_7]
    split
    · exact Or.inr ⟨0, by decide, rfl⟩
    · split
      · exact Or.inr ⟨1, by decide, rfl⟩
      · split
        · exact Or.inr ⟨2, by decide, rfl⟩
        · exact Or.inl rfl
  · exact Or.inl rfl
theorem pws_8 (T : Nat → Int32) (n b : Nat) : pws 8 T n b = -1 ∨ ∃ w, w ≤ 3 ∧ pws 8 T n b = Int32.ofNat w := by
  unfold pws
  split
  · rw [wa_8]
    split
    · exact Or.inr ⟨0, by decide, rfl⟩
    · split
      · exact Or.inr ⟨1, by decide, rfl⟩
      · split
        · exact Or.inr ⟨2, by decide, rfl⟩
        · split
          · exact Or.inr ⟨3, by decide, rfl⟩
          · exact Or.inl rfl
  · exact Or.inl rfl
theorem pws_9 (T : Nat → Int32) (n b : Nat) : pws 9 T n b = -1 ∨ ∃ w, w ≤ 5 ∧ pws 9 T n b = Int32.ofNat w := by
  unfold pws
  split
  · rw [wa_9]
    split
    · exact Or.inr ⟨0, by decide, rfl⟩
    · split
      · exact Or.inr ⟨1, by decide, rfl⟩
      · split
        · exact Or.inr ⟨2, by decide, rfl⟩
        · split
          · exact Or.inr ⟨3, by decide, rfl⟩
          · split
            · exact Or.inr ⟨4, by decide, rfl⟩
            · split
              · exact Or.inr ⟨5, by decide, rfl⟩
              · exact Or.inl rfl
  · exact Or.inl rfl
theorem pfw_r (sort : Int32) (T : Nat → Int32) (n b : Nat) : pfw sort T n b = -1 ∨ ∃ w, w < 13 ∧ pfw sort T n b = Int32.ofNat w := by
  unfold pfw pwt pwb
  by_cases h0 : sort = 0
  · rw [if_pos h0, if_pos h0]
    rcases pws_7 T n b with e | ⟨w, hw, e⟩
    · rw [if_pos e]; exact Or.inl rfl
    · split
      · exact Or.inl rfl
      · rw [e, show (0 : Int32) = Int32.ofNat 0 from rfl, n32_add]; exact Or.inr ⟨0 + w, by omega, rfl⟩
  · rw [if_neg h0, if_neg h0]
    by_cases h2 : sort = 2
    · rw [if_pos h2, if_pos h2]
      rcases pws_8 T n b with e | ⟨w, hw, e⟩
      · rw [if_pos e]; exact Or.inl rfl
      · split
        · exact Or.inl rfl
        · rw [e, show (3 : Int32) = Int32.ofNat 3 from rfl, n32_add]; exact Or.inr ⟨3 + w, by omega, rfl⟩
    · rw [if_neg h2, if_neg h2]
      rcases pws_9 T n b with e | ⟨w, hw, e⟩
      · rw [if_pos e]; exact Or.inl rfl
      · split
        · exact Or.inl rfl
        · rw [e, show (7 : Int32) = Int32.ofNat 7 from rfl, n32_add]; exact Or.inr ⟨7 + w, by omega, rfl⟩
theorem n32_m1 {i : Nat} (h : i < 2147483648) : ¬ Int32.ofNat i = -1 := by
  intro z
  have := congrArg Int32.toInt z
  rw [n32_i h] at this
  have e1 : (-1 : Int32).toInt = -1 := rfl
  omega
theorem pl_end_ge {T : Nat → Int32} {n w b : Nat} : b ≤ pl_end T n w b := by
  unfold pl_end
  split
  · exact Nat.le_trans (nb_mono (pnl w)) (Nat.le_trans (Nat.le_trans tk_s_ge tk_e_ge) (Nat.le_trans tk_s_ge tk_e_ge))
  · exact Nat.le_trans (nb_mono (pnl w)) (Nat.le_trans tk_s_ge tk_e_ge)
theorem ps_0 {sort : Int32} {T : Nat → Int32} {n k b : Nat} {A : pA} (h : tk_k T n b = 0) : ps_run sort T n k b A = .inr A := by
  cases k with
  | zero => rfl
  | succ k => exact if_pos h
theorem ctok.k0 {S : ex_S} {n b : Nat} (h : ctok S n b) (c : S.1 30 4 = 0) : tk_k (S.1 18) n b = 0 := by
  have := tk_k4 (T := S.1 18) (n := n) (b := b)
  have h4 := h.2.2.2.2.2.1
  rw [c] at h4
  exact ((n32_eq (by decide) (by omega)).mp ((show (Int32.ofNat 0 : Int32) = 0 from rfl).trans h4)).symm
theorem ctok.kn {S : ex_S} {n b k : Nat} (h : ctok S n b) (c : ¬ S.1 30 4 = Int32.ofNat k) : ¬ tk_k (S.1 18) n b = k := fun z => c (by rw [h.2.2.2.2.2.1, z])
/-- readLines -/
def cq22 (S : ex_S) (n b k : Nat) (A : pA) : Prop := tc_at S n b ∧ ra S A ∧ ex_KV S ∧ S.2.2.2.1 29 = 4 ∧ n < b + k
def cc22 (sort : Int32) (S : ex_S) (v : Int32) (S_q : ex_S) : Prop := ex_fx pP37 S S_q ∧ ∀ n b k A, cq22 S n b k A → (∀ p, ps_run sort (S.1 18) n k b A = .inl p → v = 0 ∧ S_q.1 30 3 = Int32.ofNat p) ∧ (∀ A_q, ps_run sort (S.1 18) n k b A = .inr A_q → v = 1 ∧ ra S_q A_q)
def ci22 (sort : Int32) (S : ex_S) (x : Int32) (T : ex_S) : Prop := ex_fx pP37 S T ∧ ∀ n b k A, cq22 S n b k A → ∃ i b_q k_q A_q, x = Int32.ofNat i ∧ i ≤ b_q ∧ ctok T n b_q ∧ ra T A_q ∧ n < b_q + k_q ∧ ps_run sort (S.1 18) n k_q b_q A_q = ps_run sort (S.1 18) n k b A
theorem fx18 {S T : ex_S} (F : ex_fx pP37 S T) : T.1 18 = S.1 18 := by funext j; exact F.1 18 j (by unfold pP37; omega)
theorem ec22 : es22 cc22 := by
  have fin : ∀ (sort : Int32) (S T : ex_S) (n b_q k_q k b : Nat) (A A_q : pA), T.1 18 = S.1 18 → tk_k (T.1 18) n b_q = 0 → ra T A_q → ps_run sort (S.1 18) n k_q b_q A_q = ps_run sort (S.1 18) n k b A → (∀ p, ps_run sort (S.1 18) n k b A = .inl p → (1 : Int32) = 0 ∧ T.1 30 3 = Int32.ofNat p) ∧ (∀ A'', ps_run sort (S.1 18) n k b A = .inr A'' → (1 : Int32) = 1 ∧ ra T A'') := by
    intro sort S T n b_q k_q k b A A_q e18 h0 r e
    rw [e18] at h0
    rw [← e, ps_0 h0]
    exact ⟨fun p z => (by cases z), fun A'' z => (by cases z; exact ⟨rfl, r⟩)⟩
  refine ev22 (I9 := ci22) ec16 ec23 ec37 ?_ ?_ ?_ ?_ ?_
  · intro sort S U hU
    refine ⟨hU.1.mono (fun a k z => by unfold pP37; omega), fun n b k A q => ?_⟩
    exact ⟨0, b, k, A, rfl, Nat.zero_le _, hU.tok q.1, hU.ra q.2.1, q.2.2.2.2, rfl⟩
  · intro sort S x T hI c
    refine ⟨hI.1, fun n b k A q => ?_⟩
    obtain ⟨i, b_q, k_q, A_q, h1, h2, h3, h4, h5, h6⟩ := hI.2 n b k A q
    have hbn := h3.2.1
    have hn := h3.2.2.1
    rw [h1, show (600 : Int32) = Int32.ofNat 600 from rfl, n32_le (by omega) (by omega)] at c
    refine fin sort S T n b_q k_q k b A A_q (fx18 hI.1) ?_ h4 h6
    unfold tk_k
    rw [if_neg (by have := tk_s_ge (T := T.1 18) (n := n) (b := b_q); omega)]
  · intro sort S x T hI c1 c
    refine ⟨hI.1, fun n b k A q => ?_⟩
    obtain ⟨i, b_q, k_q, A_q, h1, h2, h3, h4, h5, h6⟩ := hI.2 n b k A q
    exact fin sort S T n b_q k_q k b A A_q (fx18 hI.1) (h3.k0 c) h4 h6
  · intro sort S x T hI c1 c2 r U hU r2 V hV c3 W hW
    obtain ⟨eU, hU⟩ : U = T ∧ _ := ⟨hU.1, hU⟩
    subst eU
    have F : ex_fx pP37 S W := (hI.1.trans hV.1).trans (hW.1.mono (fun a k z => by unfold pP37; omega))
    refine ⟨F, fun n b k A q => ?_⟩
    obtain ⟨i, b_q, k_q, A_q, h1, h2, h3, h4, h5, h6⟩ := hI.2 n b k A q
    have kv : ex_KV U := KV_fx hI.1 (fun a k z => by unfold pP37 at z; omega) q.2.2.1
    have e18 := fx18 hI.1
    have er := hU.2 kv n b_q h3
    have hk0 : ¬ tk_k (U.1 18) n b_q = 0 := h3.kn c2
    rw [e18] at er hk0
    rcases pfw_r sort (S.1 18) n b_q with e | ⟨w, hw, e⟩
    · exact absurd (hV.2.1 (er.trans e)).1 c3
    · have q37 : pq37 U w n b_q A_q := ⟨hw, h3, h4, kv, by rw [hI.1.2]; exact q.2.2.2.1⟩
      obtain ⟨g1, g2⟩ := hV.2.2 w n b_q A_q (er.trans e) q37
      rw [e18] at g1 g2
      cases hf : pl_fail (S.1 18) n w (tk_e (S.1 18) n b_q) with
      | some p => exact absurd (g1 p hf).1 c3
      | none =>
        obtain ⟨_, g3, g4⟩ := g2 hf
        have gt := tk_e_gt hk0
        have ge1 := tk_s_ge (T := S.1 18) (n := n) (b := b_q)
        have ge2 := pl_end_ge (T := S.1 18) (n := n) (w := w) (b := tk_e (S.1 18) n b_q)
        refine ⟨i + 1, pl_end (S.1 18) n w (tk_e (S.1 18) n b_q), k_q - 1, pline (S.1 18) n w (tk_s (S.1 18) n b_q) (tk_e (S.1 18) n b_q) A_q, by rw [h1, n32_s], by omega, hW.tok g3, hW.ra g4, by omega, ?_⟩
        rw [← h6]
        have hbn := h3.2.1
        obtain ⟨m, rfl⟩ : ∃ m, k_q = m + 1 := ⟨k_q - 1, by omega⟩
        show _ = if tk_k (S.1 18) n b_q = 0 then _ else if pfw sort (S.1 18) n b_q = -1 then _ else match pl_fail (S.1 18) n (pfw sort (S.1 18) n b_q).toNatClampNeg (tk_e (S.1 18) n b_q) with | some p => Sum.inl p | none => ps_run sort (S.1 18) n m (pl_end (S.1 18) n (pfw sort (S.1 18) n b_q).toNatClampNeg (tk_e (S.1 18) n b_q)) (pline (S.1 18) n (pfw sort (S.1 18) n b_q).toNatClampNeg (tk_s (S.1 18) n b_q) (tk_e (S.1 18) n b_q) A_q)
        rw [if_neg hk0, e, if_neg (n32_m1 (by omega)), n32_tn (by omega), hf]
        rfl
  · intro sort S x T hI c1 c2 r U hU r2 V hV c3
    obtain ⟨eU, hU⟩ : U = T ∧ _ := ⟨hU.1, hU⟩
    subst eU
    refine ⟨hI.1.trans hV.1, fun n b k A q => ?_⟩
    obtain ⟨i, b_q, k_q, A_q, h1, h2, h3, h4, h5, h6⟩ := hI.2 n b k A q
    have kv : ex_KV U := KV_fx hI.1 (fun a k z => by unfold pP37 at z; omega) q.2.2.1
    have e18 := fx18 hI.1
    have er := hU.2 kv n b_q h3
    have hk0 : ¬ tk_k (U.1 18) n b_q = 0 := h3.kn c2
    rw [e18] at er hk0
    have hbn := h3.2.1
    have c3' := Classical.not_not.mp c3
    obtain ⟨m, rfl⟩ : ∃ m, k_q = m + 1 := ⟨k_q - 1, by omega⟩
    have un : ps_run sort (S.1 18) n (m + 1) b_q A_q = if tk_k (S.1 18) n b_q = 0 then Sum.inr A_q else if pfw sort (S.1 18) n b_q = -1 then Sum.inl (tk_s (S.1 18) n b_q) else match pl_fail (S.1 18) n (pfw sort (S.1 18) n b_q).toNatClampNeg (tk_e (S.1 18) n b_q) with | some p => Sum.inl p | none => ps_run sort (S.1 18) n m (pl_end (S.1 18) n (pfw sort (S.1 18) n b_q).toNatClampNeg (tk_e (S.1 18) n b_q)) (pline (S.1 18) n (pfw sort (S.1 18) n b_q).toNatClampNeg (tk_s (S.1 18) n b_q) (tk_e (S.1 18) n b_q) A_q) := rfl
    rcases pfw_r sort (S.1 18) n b_q with e | ⟨w, hw, e⟩
    · have eV := (hV.2.1 (er.trans e)).2
      rw [← h6, un, if_neg hk0, if_pos e]
      refine ⟨fun p z => ?_, fun A'' z => (by cases z)⟩
      cases z
      refine ⟨rfl, ?_⟩
      rw [eV, h3.2.2.2.1, e18]
    · have q37 : pq37 U w n b_q A_q := ⟨hw, h3, h4, kv, by rw [hI.1.2]; exact q.2.2.2.1⟩
      obtain ⟨g1, g2⟩ := hV.2.2 w n b_q A_q (er.trans e) q37
      rw [e18] at g1 g2
      cases hf : pl_fail (S.1 18) n w (tk_e (S.1 18) n b_q) with
      | none => exact absurd c3' (by rw [(g2 hf).1]; decide)
      | some p =>
        rw [← h6, un, if_neg hk0, e, if_neg (n32_m1 (by omega)), n32_tn (by omega), hf]
        refine ⟨fun p' z => ?_, fun A'' z => (by cases z)⟩
        cases z
        exact ⟨rfl, (g1 p hf).2⟩
/-- what the class's reader holds of a ROW -/
def rr (S : ex_S) (A : pA) : Prop := S.1 25 1 = pf A ∧ S.1 25 2 = pp A ∧ (pf A = 0 → S.1 25 4 = Int32.ofNat (pic A) ∧ pic A ≤ 12 ∧ ∀ k, k < pic A → S.1 26 k = pit A k 0)
theorem rr.keep {S S_q : ex_S} {A : pA} (h : rr S A) (h5 : ∀ k, S_q.1 25 k = S.1 25 k) (h6 : ∀ k, S_q.1 26 k = S.1 26 k) : rr S_q A := by
  obtain ⟨a, b, c⟩ := h
  refine ⟨by rw [h5]; exact a, by rw [h5]; exact b, fun z => ?_⟩
  obtain ⟨c1, c2, c3⟩ := c z
  exact ⟨by rw [h5]; exact c1, c2, fun k hk => by rw [h6]; exact c3 k hk⟩
theorem cc21.rr {f p : Int32} {S S_q : ex_S} {A : pA} (h : cc21 f p S S_q) (r : rr S A) (hf : f ≠ 0) : rr S_q (pnote A true f p) := by
  unfold cc21 at h
  unfold pnote
  by_cases h0 : pf A = 0
  · rw [if_pos ⟨h0, rfl⟩]
    rw [if_pos (by rw [r.1]; exact h0)] at h
    subst h
    exact ⟨rfl, rfl, fun z => absurd z hf⟩
  · rw [if_neg (fun z => h0 z.1)]
    rw [if_neg (by rw [r.1]; exact h0)] at h
    rw [h]; exact r
theorem cc16.rr {S S_q : ex_S} {A : pA} (h : cc16 S S_q) (r : rr S A) : rr S_q A := r.keep (fun k => h.1.1 25 k (by omega)) (fun k => h.1.1 26 k (by omega))
/-- where there is a FAULT already, what else is written does not matter -/
theorem rr.fault {S S_q : ex_S} {A : pA} (h : rr S A) (h0 : pf A ≠ 0) (h1 : S_q.1 25 1 = S.1 25 1) (h2 : S_q.1 25 2 = S.1 25 2) : rr S_q A := ⟨by rw [h1]; exact h.1, by rw [h2]; exact h.2.1, fun z => absurd z h0⟩
theorem pnote_ne {A : pA} {c : Bool} {f p : Int32} (h : pf A ≠ 0) : pnote A c f p = A := if_neg (fun z => h z.1)
theorem pr_0 {T : Nat → Int32} {n k b : Nat} {A : pA} (h : tk_k T n b = 0) : pr_run T n k b A = .inr A := by
  cases k with
  | zero => rfl
  | succ k => exact if_pos h
def cq15 (S : ex_S) (n b k : Nat) (A : pA) : Prop := tc_at S n b ∧ rr S A ∧ n < b + k
def cc15 (S : ex_S) (v : Int32) (S_q : ex_S) : Prop := ex_fx pP37 S S_q ∧ ∀ n b k A, cq15 S n b k A → (∀ p, pr_run (S.1 18) n k b A = .inl p → v = 0 ∧ S_q.1 30 3 = Int32.ofNat p) ∧ (∀ A_q, pr_run (S.1 18) n k b A = .inr A_q → v = 1 ∧ rr S_q A_q)
def ci15 (S : ex_S) (x : Int32) (T : ex_S) : Prop := ex_fx pP37 S T ∧ ∀ n b k A, cq15 S n b k A → ∃ i b_q k_q A_q, x = Int32.ofNat i ∧ i ≤ b_q ∧ ctok T n b_q ∧ rr T A_q ∧ n < b_q + k_q ∧ pr_run (S.1 18) n k_q b_q A_q = pr_run (S.1 18) n k b A
/-- one NUMBER of a ROW -/
theorem ci15_one {S T U W : ex_S} {x : Int32} (hI : ci15 S x T) (c1 : ¬ 600 ≤ x) (c2 : T.1 30 4 = 2) (FU : ex_fx pP37 T U) (t2 : U.1 30 2 = T.1 30 2) (hW : cc16 U W) (hr : ∀ n b_q A_q, ctok T n b_q → rr T A_q → T.1 30 5 = tk_v (T.1 18) n b_q → rr U (pr_one (T.1 18) n b_q A_q)) : ci15 S (x + 1) W := by
  refine ⟨(hI.1.trans FU).trans (hW.1.mono (fun a k z => by unfold pP37; omega)), fun n b k A q => ?_⟩
  obtain ⟨i, b_q, k_q, A_q, h1, h2, h3, h4, h5, h6⟩ := hI.2 n b k A q
  have e18 := fx18 hI.1
  have hk2 : tk_k (T.1 18) n b_q = 2 := by
    have := tk_k4 (T := T.1 18) (n := n) (b := b_q)
    have h4 := h3.2.2.2.2.2.1
    rw [c2] at h4
    exact ((n32_eq (by decide) (by omega)).mp ((show (Int32.ofNat 2 : Int32) = 2 from rfl).trans h4)).symm
  have gt := tk_e_gt (T := T.1 18) (n := n) (b := b_q) (by omega)
  have ge1 := tk_s_ge (T := T.1 18) (n := n) (b := b_q)
  have hbn := h3.2.1
  have tU : tc_at U n (tk_e (T.1 18) n b_q) := ⟨(FU.1 30 1 (by unfold pP37; omega)).trans h3.1, t2.trans h3.2.2.2.2.1, tk_e_le h3.2.1, h3.2.2.1⟩
  refine ⟨i + 1, tk_e (T.1 18) n b_q, k_q - 1, pr_one (T.1 18) n b_q A_q, by rw [h1, n32_s], by omega, hW.tok tU, hW.rr (hr n b_q A_q h3 h4 (h3.2.2.2.2.2.2 hk2)), by omega, ?_⟩
  rw [← h6]
  obtain ⟨m, rfl⟩ : ∃ m, k_q = m + 1 := ⟨k_q - 1, by omega⟩
  rw [e18] at hk2 ⊢
  show _ = if tk_k (S.1 18) n b_q = 0 then _ else if tk_k (S.1 18) n b_q = 2 then pr_run (S.1 18) n m (tk_e (S.1 18) n b_q) (pr_one (S.1 18) n b_q A_q) else _
  rw [if_neg (by omega), if_pos hk2]
  rfl
theorem ec15 : es15 cc15 := by
  have fin : ∀ (S T : ex_S) (n b_q k_q k b : Nat) (A A_q : pA), T.1 18 = S.1 18 → tk_k (T.1 18) n b_q = 0 → rr T A_q → pr_run (S.1 18) n k_q b_q A_q = pr_run (S.1 18) n k b A → (∀ p, pr_run (S.1 18) n k b A = .inl p → (1 : Int32) = 0 ∧ T.1 30 3 = Int32.ofNat p) ∧ (∀ A'', pr_run (S.1 18) n k b A = .inr A'' → (1 : Int32) = 1 ∧ rr T A'') := by
    intro S T n b_q k_q k b A A_q e18 h0 r e
    rw [e18] at h0
    rw [← e, pr_0 h0]
    exact ⟨fun p z => (by cases z), fun A'' z => (by cases z; exact ⟨rfl, r⟩)⟩
  have big : ∀ (S T : ex_S) (x : Int32), ci15 S x T → 600 ≤ x → ∀ n b k A, cq15 S n b k A → ∃ b_q k_q A_q, ctok T n b_q ∧ rr T A_q ∧ tk_k (T.1 18) n b_q = 0 ∧ pr_run (S.1 18) n k_q b_q A_q = pr_run (S.1 18) n k b A := by
    intro S T x hI c n b k A q
    obtain ⟨i, b_q, k_q, A_q, h1, h2, h3, h4, h5, h6⟩ := hI.2 n b k A q
    have hbn := h3.2.1
    have hn := h3.2.2.1
    rw [h1, show (600 : Int32) = Int32.ofNat 600 from rfl, n32_le (by omega) (by omega)] at c
    refine ⟨b_q, k_q, A_q, h3, h4, ?_, h6⟩
    unfold tk_k
    rw [if_neg (by have := tk_s_ge (T := T.1 18) (n := n) (b := b_q); omega)]
  refine ev15 (I9 := ci15) ec16 ec21 ?_ ?_ ?_ ?_ ?_ ?_ ?_ ?_ ?_
  · intro S U hU
    exact ⟨hU.1.mono (fun a k z => by unfold pP37; omega), fun n b k A q => ⟨0, b, k, A, rfl, Nat.zero_le _, hU.tok q.1, hU.rr q.2.1, q.2.2, rfl⟩⟩
  · intro S x T hI c1 c2
    refine ⟨hI.1, fun n b k A q => ?_⟩
    obtain ⟨b_q, k_q, A_q, g1, g2, g3, g4⟩ := big S T x hI c1 n b k A q
    exact absurd (by rw [g1.2.2.2.2.2.1, g3]; rfl) c2
  · intro S x T hI c1 c2
    refine ⟨hI.1, fun n b k A q => ?_⟩
    obtain ⟨b_q, k_q, A_q, g1, g2, g3, g4⟩ := big S T x hI c1 n b k A q
    exact fin S T n b_q k_q k b A A_q (fx18 hI.1) g3 g2 g4
  · intro S x T hI c1 c2 c3
    refine ⟨hI.1, fun n b k A q => ?_⟩
    obtain ⟨i, b_q, k_q, A_q, h1, h2, h3, h4, h5, h6⟩ := hI.2 n b k A q
    have e18 := fx18 hI.1
    have hk0 : ¬ tk_k (T.1 18) n b_q = 0 := h3.kn c3
    have hk2 : ¬ tk_k (T.1 18) n b_q = 2 := h3.kn c2
    have hbn := h3.2.1
    obtain ⟨m, rfl⟩ : ∃ m, k_q = m + 1 := ⟨k_q - 1, by omega⟩
    rw [e18] at hk0 hk2
    have un : pr_run (S.1 18) n (m + 1) b_q A_q = .inl (tk_s (S.1 18) n b_q) := by
      show (if tk_k (S.1 18) n b_q = 0 then Sum.inr A_q else if tk_k (S.1 18) n b_q = 2 then _ else _) = _
      rw [if_neg hk0, if_neg hk2]
    rw [← h6, un]
    refine ⟨fun p z => ?_, fun A'' z => (by cases z)⟩
    cases z
    exact ⟨rfl, by rw [h3.2.2.2.1, e18]⟩
  · intro S x T hI c1 c2 c3
    refine ⟨hI.1, fun n b k A q => ?_⟩
    obtain ⟨i, b_q, k_q, A_q, h1, h2, h3, h4, h5, h6⟩ := hI.2 n b k A q
    exact fin S T n b_q k_q k b A A_q (fx18 hI.1) (h3.k0 (Classical.not_not.mp c3)) h4 h6
  · intro S x T hI c1 c2 c3 c4 W hW
    refine ci15_one hI c1 (Classical.not_not.mp c2) (((ex_fx.refl _ T).sx (by unfold pP37; omega)).sx (by unfold pP37; omega)) (by rw [ex_sx_ne (by omega), ex_sx_ne (by omega)]) hW (fun n b_q A_q h3 r ev => ?_)
    rw [ev] at c3
    unfold pr_one
    have d10 : decide (10 ≤ tk_v (T.1 18) n b_q) = false := decide_eq_false (Int32.not_le.mpr c3)
    rw [d10, pnote_f]
    by_cases h0 : pf A_q = 0
    · obtain ⟨r1, r2, r3⟩ := r.2.2 h0
      rw [r1, show (12 : Int32) = Int32.ofNat 12 from rfl, n32_lt (by omega) (by omega)] at c4
      have d12 : decide (12 ≤ pic A_q) = false := decide_eq_false (by omega)
      rw [d12, pnote_f, if_pos h0]
      refine ⟨r.1, r.2.1, fun _ => ⟨?_, ?_, fun k hk => ?_⟩⟩
      · rw [ex_sx_eq, r1, n32_s]; rfl
      · show pic A_q + 1 ≤ 12
        omega
      · have hk' : k < pic A_q + 1 := hk
        show (ex_sx (ex_sx T 26 _ _) 25 4 _).1 26 k = if k = pic A_q then tk_v (T.1 18) n b_q else pit A_q k 0
        rw [ex_sx_ne (by omega), ex_sx_at, r1, n32_tn (by omega), ev]
        by_cases hkk : k = pic A_q
        · rw [if_pos ⟨rfl, hkk⟩, if_pos hkk]
        · rw [if_neg (fun z => hkk z.2), if_neg hkk]; exact r3 k (by omega)
    · rw [pnote_ne h0, if_neg h0]
      exact r.fault h0 (by rw [ex_sx_ne (by omega), ex_sx_ne (by omega)]) (by rw [ex_sx_ne (by omega), ex_sx_ne (by omega)])
  · intro S x T hI c1 c2 c3 c4 U hU W hW
    refine ci15_one hI c1 (Classical.not_not.mp c2) (hU.fx.mono (fun a k z => by unfold pP37; omega)) (hU.fx.1 30 2 (by omega)) hW (fun n b_q A_q h3 r ev => ?_)
    rw [ev] at c3
    unfold pr_one
    have d10 : decide (10 ≤ tk_v (T.1 18) n b_q) = false := decide_eq_false (Int32.not_le.mpr c3)
    rw [d10, pnote_f]
    have r_q := hU.rr r (by decide)
    rw [h3.2.2.2.1] at r_q
    by_cases h0 : pf A_q = 0
    · obtain ⟨r1, r2, r3⟩ := r.2.2 h0
      rw [r1, show (12 : Int32) = Int32.ofNat 12 from rfl, n32_lt (by omega) (by omega)] at c4
      have d12 : decide (12 ≤ pic A_q) = true := decide_eq_true (by omega)
      rw [d12]
      have nf : ¬ pf (pnote A_q true 3 (Int32.ofNat (tk_s (T.1 18) n b_q))) = 0 := by
        unfold pnote; rw [if_pos ⟨h0, rfl⟩]; show ¬ (3 : Int32) = 0; decide
      rw [if_neg nf]; exact r_q
    · rw [pnote_ne h0] at r_q ⊢
      rw [if_neg h0]; exact r_q
  · intro S x T hI c1 c2 c3 U hU c4 W hW
    refine ci15_one hI c1 (Classical.not_not.mp c2) (((hU.fx.mono (fun a k z => by unfold pP37; omega)).sx (by unfold pP37; omega)).sx (by unfold pP37; omega)) (by rw [ex_sx_ne (by omega), ex_sx_ne (by omega)]; exact hU.fx.1 30 2 (by omega)) hW (fun n b_q A_q h3 r ev => ?_)
    rw [ev] at c3
    unfold pr_one
    have d10 : decide (10 ≤ tk_v (T.1 18) n b_q) = true := decide_eq_true (Int32.not_lt.mp c3)
    rw [d10]
    have r_q := hU.rr r (by decide)
    rw [h3.2.2.2.1] at r_q
    have nf : pf (pnote A_q true 2 (Int32.ofNat (tk_s (T.1 18) n b_q))) ≠ 0 := by
      unfold pnote
      by_cases h0 : pf A_q = 0
      · rw [if_pos ⟨h0, rfl⟩]; show ¬ (2 : Int32) = 0; decide
      · rw [if_neg (fun z => h0 z.1)]; exact h0
    rw [pnote_ne nf, if_neg nf]
    exact r_q.fault nf (by rw [ex_sx_ne (by omega), ex_sx_ne (by omega)]) (by rw [ex_sx_ne (by omega), ex_sx_ne (by omega)])
  · intro S x T hI c1 c2 c3 U hU c4 V hV W hW
    refine ci15_one hI c1 (Classical.not_not.mp c2) ((hU.fx.trans hV.fx).mono (fun a k z => by unfold pP37; omega)) ((hV.fx.1 30 2 (by omega)).trans (hU.fx.1 30 2 (by omega))) hW (fun n b_q A_q h3 r ev => ?_)
    rw [ev] at c3
    unfold pr_one
    have d10 : decide (10 ≤ tk_v (T.1 18) n b_q) = true := decide_eq_true (Int32.not_lt.mp c3)
    rw [d10]
    have r_q := hU.rr r (by decide)
    rw [h3.2.2.2.1] at r_q
    have nf : pf (pnote A_q true 2 (Int32.ofNat (tk_s (T.1 18) n b_q))) ≠ 0 := by
      unfold pnote
      by_cases h0 : pf A_q = 0
      · rw [if_pos ⟨h0, rfl⟩]; show ¬ (2 : Int32) = 0; decide
      · rw [if_neg (fun z => h0 z.1)]; exact h0
    have r2 := hV.rr r_q (by decide)
    rw [pnote_ne nf] at r2 ⊢
    rw [if_neg nf]; exact r2
end
section
/-- forget -/
def pP11 (a k : Nat) : Prop := (a = 30 ∧ 1 ≤ k) ∨ (a = 25 ∧ 1 ≤ k) ∨ a = 26 ∨ a = 27 ∨ a = 28 ∨ a = 29
def cc12 (S S_q : ex_S) : Prop := ex_fx pP11 S S_q ∧ (∀ k, S_q.1 30 k = S.1 30 k) ∧ (S.2.2.2.1 28 = 10 → ra S_q pA0 ∧ rr S_q pA0)
theorem ec12 : es12 cc12 := by
  refine ev12 ec13 ?_
  intro S U hU
  have F1 : ex_fx pP11 S (ex_sx (ex_sx (ex_sx (ex_sx S 25 1 0) 25 2 (-1)) 25 4 0) 25 6 0) := ((((ex_fx.refl _ S).sx (by unfold pP11; omega)).sx (by unfold pP11; omega)).sx (by unfold pP11; omega)).sx (by unfold pP11; omega)
  have F2 : ex_fx pP11 S (ex_sx (ex_sx U 25 8 4) 25 9 (-1)) := ((F1.trans (hU.1.mono (fun a k z => by unfold pP11; omega))).sx (by unfold pP11; omega)).sx (by unfold pP11; omega)
  refine ⟨F2, fun k => ?_, fun hl => ?_⟩
  · rw [ex_sx_ne (by omega), ex_sx_ne (by omega), hU.1.1 30 k (by omega), ex_sx_ne (by omega), ex_sx_ne (by omega), ex_sx_ne (by omega), ex_sx_ne (by omega)]
  · have u := hU.2 10 hl (by decide)
    have g : ∀ k, k ≠ 8 → k ≠ 9 → (ex_sx (ex_sx U 25 8 4) 25 9 (-1)).1 25 k = (ex_sx (ex_sx (ex_sx (ex_sx S 25 1 0) 25 2 (-1)) 25 4 0) 25 6 0).1 25 k := fun k h8 h9 => by
      rw [ex_sx_ne (by omega), ex_sx_ne (by omega), hU.1.1 25 k (by omega)]
    have g1 : (ex_sx (ex_sx U 25 8 4) 25 9 (-1)).1 25 1 = 0 := (g 1 (by decide) (by decide)).trans rfl
    have g2 : (ex_sx (ex_sx U 25 8 4) 25 9 (-1)).1 25 2 = -1 := (g 2 (by decide) (by decide)).trans rfl
    have g4 : (ex_sx (ex_sx U 25 8 4) 25 9 (-1)).1 25 4 = 0 := (g 4 (by decide) (by decide)).trans rfl
    have g6 : (ex_sx (ex_sx U 25 8 4) 25 9 (-1)).1 25 6 = 0 := (g 6 (by decide) (by decide)).trans rfl
    refine ⟨⟨g1, g2, fun _ => ⟨g4, Nat.zero_le _, g6, Nat.zero_le _, rfl, rfl, fun k j hk => absurd hk (Nat.not_lt_zero _), fun k j hk => absurd hk (Nat.not_lt_zero _), fun k hk => ?_⟩⟩, ⟨g1, g2, fun _ => ⟨g4, Nat.zero_le _, fun k hk => absurd hk (Nat.not_lt_zero _)⟩⟩⟩
    rw [ex_sx_ne (by omega), ex_sx_ne (by omega), u, if_pos hk]; rfl
/-- startOver -/
def cc14 (a : Int32) (S S_q : ex_S) : Prop := ex_fx (fun a k => a = 30 ∧ 1 ≤ k) S S_q ∧ ∀ n, a = Int32.ofNat n → n ≤ 600 → S.2.2.2.1 18 = 600 → tc_at S_q n 0
theorem ec14 : es14 cc14 := by
  refine ev14 ?_
  intro a S
  refine ⟨((((ex_fx.refl _ S).sx (by decide)).sx (by decide)).sx (by decide)).sx (by decide), fun n e hn hl => ⟨?_, rfl, Nat.zero_le _, hn⟩⟩
  show (if Int32.ofNat (S.2.2.2.1 18) < a then Int32.ofNat (S.2.2.2.1 18) else a) = _
  rw [hl, e, if_neg (fun z => absurd ((n32_lt (by omega) (by omega)).mp z) (by omega))]
/-- readTape: a text is read -/
def cq11 (S : ex_S) (n : Nat) : Prop := n ≤ 600 ∧ S.2.2.2.1 18 = 600 ∧ S.2.2.2.1 28 = 10 ∧ S.2.2.2.1 29 = 4 ∧ ex_KV S
def cc11 (a sort : Int32) (S S_q : ex_S) : Prop := ex_fx pP11 S S_q ∧ ∀ n, a = Int32.ofNat n → cq11 S n → if sort = 1 then rr S_q (ps_text sort (S.1 18) n) else ra S_q (ps_text sort (S.1 18) n)
theorem fx18' {S T : ex_S} (F : ex_fx pP11 S T) : T.1 18 = S.1 18 := by funext j; exact F.1 18 j (by unfold pP11; omega)
/-- behind forget and startOver -/
theorem cc11_0 {a : Int32} {S U V : ex_S} (hU : cc12 S U) (hV : cc14 a U V) {n : Nat} (e : a = Int32.ofNat n) (q : cq11 S n) : tc_at V n 0 ∧ ra V pA0 ∧ rr V pA0 ∧ V.1 18 = S.1 18 ∧ ex_KV V ∧ V.2.2.2.1 29 = 4 := by
  obtain ⟨q1, q2, q3, q4, q5⟩ := q
  obtain ⟨r1, r2⟩ := hU.2.2 q3
  have F : ex_fx pP11 S V := hU.1.trans (hV.1.mono (fun a k z => by unfold pP11; omega))
  refine ⟨hV.2 n e q1 (by rw [hU.1.2]; exact q2), r1.keep (fun k => hV.1.1 25 k (by omega)) (fun k => hV.1.1 26 k (by omega)) (fun k => hV.1.1 27 k (by omega)) (fun k => hV.1.1 28 k (by omega)), r2.keep (fun k => hV.1.1 25 k (by omega)) (fun k => hV.1.1 26 k (by omega)), fx18' F, KV_fx F (fun a k z => by unfold pP11 at z; omega) q5, by rw [F.2]; exact q4⟩
theorem ec11 : es11 cc11 := by
  have P37 : ∀ a k, pP37 a k → pP11 a k := fun a k z => by unfold pP37 at z; unfold pP11; omega
  have FV : ∀ {a : Int32} {S U V : ex_S}, cc12 S U → cc14 a U V → ex_fx pP11 S V := fun hU hV => hU.1.trans (hV.1.mono (fun a k z => by unfold pP11; omega))
  -- lines, no row
  have L : ∀ {a sort : Int32} {S U V W : ex_S} {r : Int32}, cc12 S U → cc14 a U V → ¬ sort = 1 → cc22 sort V r W → ∀ n, a = Int32.ofNat n → cq11 S n → (∀ p, ps_all sort (S.1 18) n = .inl p → r = 0 ∧ W.1 30 3 = Int32.ofNat p) ∧ (∀ A_q, ps_all sort (S.1 18) n = .inr A_q → r = 1 ∧ ra W A_q) := by
    intro a sort S U V W r hU hV hs hW n e q
    obtain ⟨t, r1, r2, e18, kv, hl⟩ := cc11_0 hU hV e q
    have := hW.2 n 0 601 pA0 ⟨t, r1, kv, hl, by have := q.1; omega⟩
    unfold ps_all
    rw [if_neg hs, ← e18]; exact this
  have R : ∀ {a sort : Int32} {S U V W : ex_S} {r : Int32}, cc12 S U → cc14 a U V → sort = 1 → cc15 V r W → ∀ n, a = Int32.ofNat n → cq11 S n → (∀ p, ps_all sort (S.1 18) n = .inl p → r = 0 ∧ W.1 30 3 = Int32.ofNat p) ∧ (∀ A_q, ps_all sort (S.1 18) n = .inr A_q → r = 1 ∧ rr W A_q) := by
    intro a sort S U V W r hU hV hs hW n e q
    obtain ⟨t, r1, r2, e18, kv, hl⟩ := cc11_0 hU hV e q
    have := hW.2 n 0 601 pA0 ⟨t, r2, by have := q.1; omega⟩
    unfold ps_all
    rw [if_pos hs, ← e18]; exact this
  refine ev11 ec12 ec14 ec15 ec21 ec22 ?_ ?_ ?_ ?_ ?_ ?_ ?_ ?_ ?_
  · intro a sort S U hU V hV c1 r W hW c2 c3
    refine ⟨(FV hU hV).trans (hW.1.mono P37), fun n e q => ?_⟩
    rw [if_neg c1]
    obtain ⟨g1, g2⟩ := L hU hV c1 hW n e q
    unfold ps_text
    cases h : ps_all sort (S.1 18) n with
    | inl p => exact absurd (g1 p h).1 c2
    | inr A =>
      have hl : ps_last sort A = false := by unfold ps_last; rw [decide_eq_false c1, decide_eq_false c3]; rfl
      show ra W (pnote A (ps_last sort A) 4 (Int32.ofNat n))
      rw [hl, pnote_f]; exact (g2 A h).2
  · intro a sort S U hU V hV c1 r W hW c2 c3 c4
    refine ⟨(FV hU hV).trans (hW.1.mono P37), fun n e q => ?_⟩
    rw [if_neg c1]
    obtain ⟨g1, g2⟩ := L hU hV c1 hW n e q
    unfold ps_text
    cases h : ps_all sort (S.1 18) n with
    | inl p => exact absurd (g1 p h).1 c2
    | inr A =>
      show ra W (pnote A (ps_last sort A) 4 (Int32.ofNat n))
      have r := (g2 A h).2
      by_cases h0 : pf A = 0
      · obtain ⟨_, _, _, _, r5, r6, _⟩ := r.2.2 h0
        rw [r5, r6] at c4
        have hl : ps_last sort A = false := by unfold ps_last; rw [decide_eq_false c1, decide_eq_false (Int32.not_le.mpr c4)]; simp
        rw [hl, pnote_f]; exact r
      · rw [pnote_ne h0]; exact r
  · intro a sort S U hU V hV c1 r W hW c2 c3 c4 X hX
    refine ⟨((FV hU hV).trans (hW.1.mono P37)).trans (hX.fx.mono (fun a k z => by unfold pP11; omega)), fun n e q => ?_⟩
    rw [if_neg c1]
    obtain ⟨g1, g2⟩ := L hU hV c1 hW n e q
    unfold ps_text
    cases h : ps_all sort (S.1 18) n with
    | inl p => exact absurd (g1 p h).1 c2
    | inr A =>
      show ra X (pnote A (ps_last sort A) 4 (Int32.ofNat n))
      have r := (g2 A h).2
      have r_q := hX.ra r (by decide)
      rw [e] at r_q
      by_cases h0 : pf A = 0
      · obtain ⟨_, _, _, _, r5, r6, _⟩ := r.2.2 h0
        rw [r5, r6] at c4
        have hl : ps_last sort A = true := by unfold ps_last; rw [decide_eq_true (Classical.not_not.mp c3), decide_eq_true (Int32.not_lt.mp c4)]; simp
        rw [hl]; exact r_q
      · rw [pnote_ne h0] at r_q ⊢; exact r_q
  · intro a sort S U hU V hV c1 r W hW c2
    refine ⟨(((FV hU hV).trans (hW.1.mono P37)).sx (by unfold pP11; omega)).sx (by unfold pP11; omega), fun n e q => ?_⟩
    rw [if_neg c1]
    obtain ⟨g1, g2⟩ := L hU hV c1 hW n e q
    unfold ps_text
    cases h : ps_all sort (S.1 18) n with
    | inl p => exact ⟨rfl, (g1 p h).2, fun z => absurd (show (1 : Int32) = 0 from z) (by decide)⟩
    | inr A => exact absurd (Classical.not_not.mp c2) (by rw [(g2 A h).1]; decide)
  · intro a sort S U hU V hV c1 r W hW c2 c3 X hX
    have c1 := Classical.not_not.mp c1
    refine ⟨((FV hU hV).trans (hW.1.mono P37)).trans (hX.fx.mono (fun a k z => by unfold pP11; omega)), fun n e q => ?_⟩
    rw [if_pos c1]
    obtain ⟨g1, g2⟩ := R hU hV c1 hW n e q
    unfold ps_text
    cases h : ps_all sort (S.1 18) n with
    | inl p => exact absurd (g1 p h).1 c2
    | inr A =>
      show rr X (pnote A (ps_last sort A) 4 (Int32.ofNat n))
      have r := (g2 A h).2
      have r_q := hX.rr r (by decide)
      rw [e] at r_q
      by_cases h0 : pf A = 0
      · obtain ⟨r1, r2, r3⟩ := r.2.2 h0
        rw [r1] at c3
        have hz : pic A = 0 := (n32_eq (by omega) (by decide)).mp (c3.trans (show (0 : Int32) = Int32.ofNat 0 from rfl))
        have hl : ps_last sort A = true := by unfold ps_last; rw [decide_eq_true c1, decide_eq_true hz]; rfl
        rw [hl]; exact r_q
      · rw [pnote_ne h0] at r_q ⊢; exact r_q
  · intro a sort S U hU V hV c1 r W hW c2 c3 c4
    have c1 := Classical.not_not.mp c1
    refine ⟨(FV hU hV).trans (hW.1.mono P37), fun n e q => ?_⟩
    rw [if_pos c1]
    obtain ⟨g1, g2⟩ := R hU hV c1 hW n e q
    unfold ps_text
    cases h : ps_all sort (S.1 18) n with
    | inl p => exact absurd (g1 p h).1 c2
    | inr A =>
      show rr W (pnote A (ps_last sort A) 4 (Int32.ofNat n))
      have r := (g2 A h).2
      by_cases h0 : pf A = 0
      · obtain ⟨r1, r2, r3⟩ := r.2.2 h0
        rw [r1] at c3
        have hz : ¬ pic A = 0 := fun z => c3 (by rw [z]; rfl)
        have hl : ps_last sort A = false := by unfold ps_last; rw [decide_eq_false hz, decide_eq_false c4]; simp
        rw [hl, pnote_f]; exact r
      · rw [pnote_ne h0]; exact r
  · intro a sort S U hU V hV c1 r W hW c2 c3 c4
    exact absurd ((Classical.not_not.mp c1).symm.trans (Classical.not_not.mp c4)) (by decide)
  · intro a sort S U hU V hV c1 r W hW c2 c3 c4
    exact absurd ((Classical.not_not.mp c1).symm.trans (Classical.not_not.mp c4)) (by decide)
  · intro a sort S U hU V hV c1 r W hW c2
    have c1 := Classical.not_not.mp c1
    refine ⟨(((FV hU hV).trans (hW.1.mono P37)).sx (by unfold pP11; omega)).sx (by unfold pP11; omega), fun n e q => ?_⟩
    rw [if_pos c1]
    obtain ⟨g1, g2⟩ := R hU hV c1 hW n e q
    unfold ps_text
    cases h : ps_all sort (S.1 18) n with
    | inl p => exact ⟨rfl, (g1 p h).2, fun z => absurd (show (1 : Int32) = 0 from z) (by decide)⟩
    | inr A => exact absurd (Classical.not_not.mp c2) (by rw [(g2 A h).1]; decide)
end
section
/-! THE REFERENCE'S LINES -/
/-- its token is the one behind b -/
def rtok (S : ex_S) (n b : Nat) : Prop := S.1 41 11 = Int32.ofNat n ∧ b ≤ n ∧ n ≤ 600 ∧ (∀ i, sf_B (-128) 127 (S.1 42 i)) ∧ S.1 41 12 = Int32.ofNat (tk_s (S.1 42) n b) ∧ S.1 41 10 = Int32.ofNat (tk_e (S.1 42) n b) ∧ S.1 41 13 = tk_rk (tk_k (S.1 42) n b) ∧ (tk_k (S.1 42) n b = 2 → S.1 41 14 = tk_v (S.1 42) n b) ∧ (tk_k (S.1 42) n b = 1 → S.2.1 41 15 = tk_p (S.1 42) n b)
theorem rtok.at {S : ex_S} {n b : Nat} (h : rtok S n b) : tr_at S n (tk_e (S.1 42) n b) := ⟨h.1, h.2.2.2.2.2.1, tk_e_le h.2.1, h.2.2.1, h.2.2.2.1⟩
theorem rc179.t42 {S S_q : ex_S} (h : rc179 S S_q) : S_q.1 42 = S.1 42 := by funext j; exact h.1.1 42 j (by unfold rp179; omega)
theorem rc179.tok {S S_q : ex_S} {n b : Nat} (h : rc179 S S_q) (hb : tr_at S n b) : rtok S_q n b := by
  have e := h.t42
  obtain ⟨F, h⟩ := h
  obtain ⟨h1, h2, h3, h4, h5⟩ := h n b hb
  unfold rtok
  rw [e]
  exact ⟨(F.1 41 11 (by unfold rp179; omega)).trans hb.1, hb.2.2.1, hb.2.2.2.1, hb.2.2.2.2, h1, h2, h3, h4, h5⟩
/-- what is kept of a token when other things are written -/
theorem rtok.keep {S S_q : ex_S} {n b : Nat} (h : rtok S n b) (h1 : ∀ k, 10 ≤ k → k ≤ 14 → S_q.1 41 k = S.1 41 k) (h2 : ∀ i, S_q.1 42 i = S.1 42 i) (h3 : S_q.2.1 41 15 = S.2.1 41 15) : rtok S_q n b := by
  have e : S_q.1 42 = S.1 42 := funext h2
  unfold rtok at h ⊢
  rw [e, h1 11 (by decide) (by decide), h1 12 (by decide) (by decide), h1 10 (by decide) (by decide), h1 13 (by decide) (by decide), h1 14 (by decide) (by decide), h3]
  exact h
theorem tk_rk_inj {j k : Nat} (hj : j ≤ 4) (hk : k ≤ 4) (h : tk_rk j = tk_rk k) : j = k := by
  have d : ∀ j k : Fin 5, tk_rk j.val = tk_rk k.val → j.val = k.val := by decide
  exact d ⟨j, by omega⟩ ⟨k, by omega⟩ h
theorem rtok.k {S : ex_S} {n b k : Nat} (h : rtok S n b) (hk : k ≤ 4) : S.1 41 13 = tk_rk k ↔ tk_k (S.1 42) n b = k := by
  rw [h.2.2.2.2.2.2.1]
  exact ⟨fun z => tk_rk_inj tk_k4 hk z, fun z => by rw [z]⟩
/-- later -/
def rc182 (f p : Int32) (S S_q : ex_S) : Prop := S_q = if S.1 41 17 = 0 ∨ p < S.1 41 18 ∨ (p = S.1 41 18 ∧ f < S.1 41 17) then ex_sx (ex_sx S 41 17 f) 41 18 p else S
theorem ec182 : es182 rc182 := by
  refine ev182 ?_ ?_ ?_ ?_ ?_
  · intro f p S c; exact (if_pos (Or.inl c)).symm
  · intro f p S c c1; exact (if_pos (Or.inr (Or.inl c1))).symm
  · intro f p S c c1 c2; exact (if_neg (fun z => z.elim c (fun y => y.elim c1 (fun x => c2 x.1)))).symm
  · intro f p S c c1 c2 c3; exact (if_neg (fun z => z.elim c (fun y => y.elim c1 (fun x => Int32.not_lt.mpr c3 x.2)))).symm
  · intro f p S c c1 c2 c3; exact (if_pos (Or.inr (Or.inr ⟨Classical.not_not.mp c2, Int32.not_le.mp c3⟩))).symm
def rp182 (a k : Nat) : Prop := a = 41 ∧ (k = 17 ∨ k = 18)
theorem rc182.fw {f p : Int32} {S S_q : ex_S} (h : rc182 f p S S_q) : ex_fw rp182 S S_q := by
  unfold rc182 at h
  rw [h]; split
  · exact ((ex_fw.refl _ S).sx (by unfold rp182; omega)).sx (by unfold rp182; omega)
  · exact ex_fw.refl _ S
/-- the first FAULT so far; it lies ahead of place m -/
def rqf (S : ex_S) (A : pA) (m : Nat) : Prop := S.1 41 17 = pf A ∧ (pf A ≠ 0 → S.1 41 18 = pp A ∧ ∃ p, pp A = Int32.ofNat p ∧ p < m)
theorem rqf.keep {S S_q : ex_S} {A : pA} {m m_q : Nat} (h : rqf S A m) (h1 : S_q.1 41 17 = S.1 41 17) (h2 : S_q.1 41 18 = S.1 41 18) (hm : m ≤ m_q) : rqf S_q A m_q := by
  obtain ⟨a, b⟩ := h
  refine ⟨h1.trans a, fun z => ?_⟩
  obtain ⟨b1, p, b2, b3⟩ := b z
  exact ⟨h2.trans b1, p, b2, by omega⟩
theorem rc182.note {f : Int32} {q : Nat} {S S_q : ex_S} {A : pA} (h : rc182 f (Int32.ofNat q) S S_q) (r : rqf S A q) (hq : q ≤ 600) (hf : f ≠ 0) : rqf S_q (pnote A true f (Int32.ofNat q)) (q + 1) := by
  unfold rc182 at h
  unfold pnote
  by_cases h0 : pf A = 0
  · rw [if_pos ⟨h0, rfl⟩]
    rw [if_pos (Or.inl (r.1.trans h0))] at h
    subst h
    exact ⟨rfl, fun _ => ⟨rfl, q, rfl, by omega⟩⟩
  · rw [if_neg (fun z => h0 z.1)]
    obtain ⟨b1, p, b2, b3⟩ := r.2 h0
    rw [if_neg] at h
    · rw [h]; exact r.keep rfl rfl (by omega)
    · intro z
      rw [b1, b2] at z
      rcases z with z | z | z
      · exact h0 (r.1.symm.trans z)
      · rw [n32_lt (by omega) (by omega)] at z; omega
      · have := (n32_eq (by omega) (by omega)).mp z.1; omega
/-- stops -/
def rc184 (S : ex_S) (v : Int32) (S_q : ex_S) : Prop := v = 0 ∧ S_q = ex_sx S 41 16 (S.1 41 12)
theorem ec184 : es184 rc184 := ev184 (fun _ => ⟨rfl, rfl⟩)
/-- take -/
def rp183 (a k : Nat) : Prop := (a = 41 ∧ ((10 ≤ k ∧ k ≤ 18 ∧ k ≠ 11) ∨ k = 22)) ∨ a = 52
theorem rp179_183 : ∀ a k, rp179 a k → rp183 a k := fun a k z => by unfold rp179 at z; unfold rp183; omega
theorem rp182_183 : ∀ a k, rp182 a k → rp183 a k := fun a k z => by unfold rp182 at z; unfold rp183; omega
def rbad (most but v : Int32) : Bool := decide (most < v ∨ v = but)
/-- how later(2, p) changes the first FAULT -/
def rl2 (S S_q : ex_S) (p : Int32) : Prop := ((S.1 41 17 = 0 ∨ p < S.1 41 18 ∨ (p = S.1 41 18 ∧ 2 < S.1 41 17)) → S_q.1 41 17 = 2 ∧ S_q.1 41 18 = p) ∧ (¬ (S.1 41 17 = 0 ∨ p < S.1 41 18 ∨ (p = S.1 41 18 ∧ 2 < S.1 41 17)) → S_q.1 41 17 = S.1 41 17 ∧ S_q.1 41 18 = S.1 41 18)
def rc183 (k most but : Int32) (S : ex_S) (v : Int32) (S_q : ex_S) : Prop := ex_fw rp183 S S_q ∧ ∀ n b, rtok S n b → (tk_k (S.1 42) n b ≠ 2 → v = 0 ∧ S_q.1 41 16 = Int32.ofNat (tk_s (S.1 42) n b)) ∧ (tk_k (S.1 42) n b = 2 → v = 1 ∧ rtok S_q n (tk_e (S.1 42) n b) ∧ (∀ j, S_q.1 52 j = if j = k.toNatClampNeg then tk_v (S.1 42) n b else S.1 52 j) ∧ (rbad most but (tk_v (S.1 42) n b) = true → S_q.1 41 22 = 0 ∧ rl2 S S_q (Int32.ofNat (tk_s (S.1 42) n b))) ∧ (rbad most but (tk_v (S.1 42) n b) = false → S_q.1 41 22 = S.1 41 22 ∧ S_q.1 41 17 = S.1 41 17 ∧ S_q.1 41 18 = S.1 41 18) ∧ ∀ A, rqf S A (tk_s (S.1 42) n b) → rqf S_q (pnote A (rbad most but (tk_v (S.1 42) n b)) 2 (Int32.ofNat (tk_s (S.1 42) n b))) (tk_s (S.1 42) n b + 1))
/-- a bad NUMBER is noted, and the next token seen -/
theorem rc183_bad {k most but : Int32} {S U V : ex_S} (c1 : S.1 41 13 = 3) (cb : rbad most but (S.1 41 14) = true) (hU : rc182 2 (S.1 41 12) (ex_sx S 52 k.toNatClampNeg (S.1 41 14)) U) (hV : rc179 (ex_sx U 41 22 0) V) : rc183 k most but S 1 V := by
  have F1 : ex_fw rp183 S (ex_sx S 52 k.toNatClampNeg (S.1 41 14)) := (ex_fw.refl _ S).sx (by unfold rp183; omega)
  have F2 : ex_fw rp183 S (ex_sx U 41 22 0) := (F1.trans (hU.fw.mono rp182_183)).sx (by unfold rp183; omega)
  refine ⟨F2.trans (hV.1.mono rp179_183), fun n b h => ?_⟩
  have k2 : tk_k (S.1 42) n b = 2 := (h.k (by decide)).mp c1
  refine ⟨fun z => absurd k2 z, fun _ => ?_⟩
  have ev := h.2.2.2.2.2.2.2.1 k2
  rw [ev] at cb
  have e42 : (ex_sx U 41 22 0).1 42 = S.1 42 := by funext j; exact F2.1 42 j (by unfold rp183; omega)
  have t : tr_at (ex_sx U 41 22 0) n (tk_e (S.1 42) n b) := by
    have t := h.at
    refine ⟨?_, ?_, t.2.2.1, t.2.2.2.1, fun i => by rw [e42]; exact t.2.2.2.2 i⟩
    · rw [ex_sx_ne (by omega), hU.fw.1 41 11 (by unfold rp182; omega), ex_sx_ne (by omega)]; exact t.1
    · rw [ex_sx_ne (by omega), hU.fw.1 41 10 (by unfold rp182; omega), ex_sx_ne (by omega)]; exact t.2.1
  refine ⟨rfl, hV.tok t, fun j => ?_, fun _ => ?_, fun z => (by rw [cb] at z; cases z), fun A r => ?_⟩
  · rw [hV.1.1 52 j (by unfold rp179; omega), ex_sx_ne (by omega), hU.fw.1 52 j (by unfold rp182; omega), ex_sx_at, ev]
    by_cases hj : j = k.toNatClampNeg
    · rw [if_pos ⟨rfl, hj⟩, if_pos hj]
    · rw [if_neg (fun z => hj z.2), if_neg hj]
  · refine ⟨by rw [hV.1.1 41 22 (by unfold rp179; omega), ex_sx_eq], ?_⟩
    have z17 : V.1 41 17 = U.1 41 17 := by rw [hV.1.1 41 17 (by unfold rp179; omega), ex_sx_ne (by omega)]
    have z18 : V.1 41 18 = U.1 41 18 := by rw [hV.1.1 41 18 (by unfold rp179; omega), ex_sx_ne (by omega)]
    have hU' : U = _ := hU
    rw [h.2.2.2.2.1] at hU'
    unfold rl2
    rw [z17, z18]
    refine ⟨fun c => ?_, fun c => ?_⟩
    · rw [if_pos (show (ex_sx S 52 k.toNatClampNeg (S.1 41 14)).1 41 17 = 0 ∨ Int32.ofNat (tk_s (S.1 42) n b) < (ex_sx S 52 k.toNatClampNeg (S.1 41 14)).1 41 18 ∨ (Int32.ofNat (tk_s (S.1 42) n b) = (ex_sx S 52 k.toNatClampNeg (S.1 41 14)).1 41 18 ∧ 2 < (ex_sx S 52 k.toNatClampNeg (S.1 41 14)).1 41 17) by rw [ex_sx_ne (by omega), ex_sx_ne (by omega)]; exact c)] at hU'
      rw [hU']; exact ⟨rfl, rfl⟩
    · rw [if_neg (show ¬ ((ex_sx S 52 k.toNatClampNeg (S.1 41 14)).1 41 17 = 0 ∨ Int32.ofNat (tk_s (S.1 42) n b) < (ex_sx S 52 k.toNatClampNeg (S.1 41 14)).1 41 18 ∨ (Int32.ofNat (tk_s (S.1 42) n b) = (ex_sx S 52 k.toNatClampNeg (S.1 41 14)).1 41 18 ∧ 2 < (ex_sx S 52 k.toNatClampNeg (S.1 41 14)).1 41 17)) by rw [ex_sx_ne (by omega), ex_sx_ne (by omega)]; exact c)] at hU'
      rw [hU']; exact ⟨ex_sx_ne (by omega), ex_sx_ne (by omega)⟩
  · rw [cb]
    have hU' := hU
    rw [h.2.2.2.2.1] at hU'
    have hs := tk_s_le (T := S.1 42) h.2.1
    have hn := h.2.2.1
    have r_q : rqf (ex_sx S 52 k.toNatClampNeg (S.1 41 14)) A (tk_s (S.1 42) n b) := r.keep (ex_sx_ne (by omega)) (ex_sx_ne (by omega)) (Nat.le_refl _)
    refine (hU'.note r_q (by omega) (by decide)).keep ?_ ?_ (Nat.le_refl _)
    · rw [hV.1.1 41 17 (by unfold rp179; omega), ex_sx_ne (by omega)]
    · rw [hV.1.1 41 18 (by unfold rp179; omega), ex_sx_ne (by omega)]
theorem ec183 : es183 rc183 := by
  refine ev183 ec179 ec182 ec184 ?_ ?_ ?_ ?_
  · intro k most but S c1 c2 U hU V hV
    exact rc183_bad c1 (decide_eq_true (Or.inl c2)) hU hV
  · intro k most but S c1 c2 c3 V hV
    have F1 : ex_fw rp183 S (ex_sx S 52 k.toNatClampNeg (S.1 41 14)) := (ex_fw.refl _ S).sx (by unfold rp183; omega)
    refine ⟨F1.trans (hV.1.mono rp179_183), fun n b h => ?_⟩
    have k2 : tk_k (S.1 42) n b = 2 := (h.k (by decide)).mp c1
    refine ⟨fun z => absurd k2 z, fun _ => ?_⟩
    have ev := h.2.2.2.2.2.2.2.1 k2
    have cb : rbad most but (tk_v (S.1 42) n b) = false := decide_eq_false (fun z => z.elim (fun y => c2 (by rw [ev]; exact y)) (fun y => c3 (by rw [ev]; exact y)))
    have t : tr_at (ex_sx S 52 k.toNatClampNeg (S.1 41 14)) n (tk_e (S.1 42) n b) := h.at
    refine ⟨rfl, hV.tok t, fun j => ?_, fun z => (by rw [cb] at z; cases z), fun _ => ?_, fun A r => ?_⟩
    · rw [hV.1.1 52 j (by unfold rp179; omega), ex_sx_at, ev]
      by_cases hj : j = k.toNatClampNeg
      · rw [if_pos ⟨rfl, hj⟩, if_pos hj]
      · rw [if_neg (fun z => hj z.2), if_neg hj]
    · exact ⟨by rw [hV.1.1 41 22 (by unfold rp179; omega), ex_sx_ne (by omega)], by rw [hV.1.1 41 17 (by unfold rp179; omega), ex_sx_ne (by omega)], by rw [hV.1.1 41 18 (by unfold rp179; omega), ex_sx_ne (by omega)]⟩
    · rw [cb, pnote_f]
      exact r.keep (by rw [hV.1.1 41 17 (by unfold rp179; omega), ex_sx_ne (by omega)]) (by rw [hV.1.1 41 18 (by unfold rp179; omega), ex_sx_ne (by omega)]) (by omega)
  · intro k most but S c1 c2 c3 U hU V hV
    exact rc183_bad c1 (decide_eq_true (Or.inr (Classical.not_not.mp c3))) hU hV
  · intro k most but S c1 v U hU
    obtain ⟨rfl, rfl⟩ := hU
    refine ⟨(ex_fw.refl _ S).sx (by unfold rp183; omega), fun n b h => ⟨fun _ => ⟨rfl, ?_⟩, fun z => absurd ((h.k (by decide)).mpr z) c1⟩⟩
    rw [ex_sx_eq, h.2.2.2.2.1]
theorem ex_fx.w {P : Nat → Nat → Prop} {S T : ex_S} (h : ex_fx P S T) : ex_fw P S T := ⟨h.1, fun a k _ => by rw [h.2], by rw [h.2]⟩
/-- keep: wide numbers of 52 come into 51 behind those that are there, unless there are most -/
def rc185 (a0 a1 a2 a3 a4 : Int32) (S S_q : ex_S) : Prop := ex_fx (fun a _ => a = 51) S S_q ∧ ∀ c f w m k : Nat, a0 = Int32.ofNat c → a1 = Int32.ofNat f → a2 = Int32.ofNat w → a3 = Int32.ofNat m → a4 = 0 → S.1 51 c = Int32.ofNat k → c < 2 → f ≤ 42 → w ≤ 4 → m ≤ 50 → k < m → c < f → ∀ j, S_q.1 51 j = if j = c then Int32.ofNat (k + 1) else if f + w * k ≤ j ∧ j < f + w * k + w then S.1 52 (j - (f + w * k)) else S.1 51 j
def ri185 (a0 a1 a2 a3 a4 : Int32) (S : ex_S) (x y : Int32) (T : ex_S) : Prop := ex_fx (fun a _ => a = 51) S T ∧ ∀ c f w m k : Nat, a0 = Int32.ofNat c → a1 = Int32.ofNat f → a2 = Int32.ofNat w → a3 = Int32.ofNat m → a4 = 0 → S.1 51 c = Int32.ofNat k → c < 2 → f ≤ 42 → w ≤ 4 → m ≤ 50 → k < m → c < f → x = Int32.ofNat k ∧ ∃ i, i ≤ w ∧ y = Int32.ofNat i ∧ ∀ j, T.1 51 j = if f + w * k ≤ j ∧ j < f + w * k + i then S.1 52 (j - (f + w * k)) else S.1 51 j
theorem ec185 : es185 rc185 := by
  refine ev185 (I19 := ri185) ?_ ?_ ?_ ?_
  · intro a0 a1 a2 a3 a4 S c0
    refine ⟨ex_fx.refl _ S, fun c f w m k e0 e1 e2 e3 e4 ek hc hf hw hm hk hcf => ?_⟩
    refine ⟨by rw [e0, n32_tn (by omega)]; exact ek, 0, Nat.zero_le _, rfl, fun j => by rw [if_neg (by omega)]⟩
  · intro a0 a1 a2 a3 a4 S c0
    refine ⟨ex_fx.refl _ S, fun c f w m k e0 e1 e2 e3 e4 ek hc hf hw hm hk hcf => ?_⟩
    have := Classical.not_not.mp c0
    rw [e0, n32_tn (by omega), ek, e3, n32_eq (by omega) (by omega)] at this
    omega
  · intro a0 a1 a2 a3 a4 S x y T hI c0
    refine ⟨hI.1.sx rfl, fun c f w m k e0 e1 e2 e3 e4 ek hc hf hw hm hk hcf j => ?_⟩
    obtain ⟨h1, i, i1, i2, i3⟩ := hI.2 c f w m k e0 e1 e2 e3 e4 ek hc hf hw hm hk hcf
    rw [e2, i2, n32_le (by omega) (by omega)] at c0
    have : i = w := by omega
    subst this
    rw [ex_sx_at, e0, n32_tn (by omega)]
    have hcn : ¬ (f + i * k ≤ c ∧ c < f + i * k + i) := by
      have := Nat.le_add_right f (i * k); omega
    by_cases hj : j = c
    · rw [if_pos ⟨rfl, hj⟩, if_pos hj, i3 c, if_neg hcn, ek, n32_s]
    · rw [if_neg (fun z => hj z.2), if_neg hj, i3 j]
  · intro a0 a1 a2 a3 a4 S x y T hI c0
    refine ⟨hI.1.sx rfl, fun c f w m k e0 e1 e2 e3 e4 ek hc hf hw hm hk hcf => ?_⟩
    obtain ⟨h1, i, i1, i2, i3⟩ := hI.2 c f w m k e0 e1 e2 e3 e4 ek hc hf hw hm hk hcf
    rw [e2, i2, n32_le (by omega) (by omega)] at c0
    have hwk : w * k ≤ 4 * 50 := Nat.mul_le_mul hw (by omega)
    refine ⟨h1, i + 1, by omega, by rw [i2, n32_s], fun j => ?_⟩
    have e5 : ((a1 + (a2 * x)) + y).toNatClampNeg = f + w * k + i := by
      rw [e1, e2, h1, i2, ← Int32.ofNat_mul, n32_add, n32_add, n32_tn (by omega)]
    have e6 : (a4 + y).toNatClampNeg = i := by
      rw [e4, i2, show (0 : Int32) = Int32.ofNat 0 from rfl, n32_add, n32_tn (by omega)]; omega
    rw [ex_sx_at, e5, e6, hI.1.1 52 i (by omega), i3 j]
    by_cases hj : j = f + w * k + i
    · rw [if_pos ⟨rfl, hj⟩, if_pos (by omega), show j - (f + w * k) = i by omega]
    · rw [if_neg (fun z => hj z.2)]
      by_cases hl : f + w * k ≤ j ∧ j < f + w * k + i
      · rw [if_pos hl, if_pos (by omega)]
      · rw [if_neg hl, if_neg (by omega)]
/-- clearRead -/
def rc190 (S S_q : ex_S) : Prop := ex_fx (fun a _ => a = 52) S S_q ∧ ∀ j, j < 4 → S_q.1 52 j = -1
theorem ec190 : es190 rc190 := by
  refine ev190 (I2 := fun S x T => ex_fx (fun a _ => a = 52) S T ∧ ∃ i, i ≤ 4 ∧ x = Int32.ofNat i ∧ ∀ j, j < i → T.1 52 j = -1) ?_ ?_ ?_
  · intro S; exact ⟨ex_fx.refl _ S, 0, by decide, rfl, fun j hj => absurd hj (by omega)⟩
  · intro S x T hI c
    obtain ⟨F, i, i1, i2, i3⟩ := hI
    rw [i2, show (4 : Int32) = Int32.ofNat 4 from rfl, n32_le (by omega) (by omega)] at c
    exact ⟨F, fun j hj => i3 j (by omega)⟩
  · intro S x T hI c
    obtain ⟨F, i, i1, i2, i3⟩ := hI
    rw [i2, show (4 : Int32) = Int32.ofNat 4 from rfl, n32_le (by omega) (by omega)] at c
    refine ⟨F.sx rfl, i + 1, by omega, by rw [i2, n32_s], fun j hj => ?_⟩
    rw [ex_sx_at, i2, n32_tn (by omega)]
    by_cases h : j = i
    · rw [if_pos ⟨rfl, h⟩]
    · rw [if_neg (fun z => h z.2)]; exact i3 j (by omega)
/-- seat -/
def rc191 (k but : Int32) (S : ex_S) (v : Int32) (S_q : ex_S) : Prop := ∃ U, rc183 k 5 but S v U ∧ S_q = ex_sx U 41 21 (if v = 0 then U.1 41 21 else pmx (U.1 41 21) (U.1 52 k.toNatClampNeg))
theorem ec191 : es191 rc191 := by
  refine ev191 ec183 ?_ ?_ ?_
  · intro k but S v U hU c; exact ⟨U, hU, by rw [if_pos c]⟩
  · intro k but S v U hU c c1
    refine ⟨U, hU, ?_⟩
    rw [if_neg c]; unfold pmx; rw [if_neg (Int32.not_lt.mpr c1)]
  · intro k but S v U hU c c1
    refine ⟨U, hU, ?_⟩
    rw [if_neg c]; unfold pmx; rw [if_pos (Int32.not_le.mp c1)]
/-- a packed word against a constant -/
theorem lg_0 {x y : Int64} : lg_cmp x y = 0 ↔ x = y := by
  unfold lg_cmp
  by_cases h : x > y
  · rw [if_pos h]
    exact ⟨fun z => absurd z (by decide), fun z => absurd h (by rw [z]; exact Int64.lt_irrefl)⟩
  · rw [if_neg h]
    by_cases e : x = y
    · rw [if_pos e]; exact ⟨fun _ => e, fun _ => rfl⟩
    · rw [if_neg e]; exact ⟨fun z => absurd z (by decide), fun z => absurd z e⟩
/-- the word that a line begins with, as the reference hands it over -/
def rwd (T : Nat → Int32) (n b : Nat) : Int64 := if tk_k T n b = 1 then tk_p T n b else 0
theorem rwd_eq {T B : Nat → Int32} {n b f l : Nat} {c : Int64} (hb : b ≤ n) (hm : 1 ≤ l - f) (hm8 : l - f ≤ 8) (hB : ∀ i, i < l - f → tk_le (B (f + i)) = true) (hc : c = tk_pf B f (l - f)) (h0 : c ≠ 0) : lg_cmp (rwd T n b) c = 0 ↔ tk_k T n b = 1 ∧ sp_b B T f l (tk_s T n b) (tk_e T n b) = true := by
  rw [lg_0]
  unfold rwd
  by_cases hk : tk_k T n b = 1
  · rw [if_pos hk, hc, tk_p_eq hk hb hm hm8 hB]; exact ⟨fun z => ⟨hk, z⟩, fun z => z.2⟩
  · rw [if_neg hk]; exact ⟨fun z => absurd z.symm h0, fun z => absurd z.1 hk⟩
end
section
/-- actWord -/
def rp188 (a k : Nat) : Prop := (a = 41 ∧ (k = 10 ∨ k = 12 ∨ k = 13 ∨ k = 14 ∨ k = 16)) ∨ (a = 52 ∧ k = 3)
def rc188 (S : ex_S) (v : Int32) (S_q : ex_S) : Prop := ex_fw rp188 S S_q ∧ ∀ n b, rtok S n b → (pws 10 (S.1 42) n b = -1 → v = 0 ∧ S_q.1 41 16 = Int32.ofNat (tk_s (S.1 42) n b)) ∧ (pws 10 (S.1 42) n b ≠ -1 → v = 1 ∧ rtok S_q n (tk_e (S.1 42) n b) ∧ S_q.1 52 3 = pws 10 (S.1 42) n b)
theorem ac_le : ∀ i : Fin 23, i.val ≠ 4 → i.val ≠ 9 → i.val ≠ 14 → i.val ≠ 19 → tk_le (ex_st 14 i.val) = true := by decide +kernel
/-- the five ACTS, packed -/
theorem ac_w {S : ex_S} {n b : Nat} (h : rtok S n b) (hk : S.1 41 13 = 2) : (lg_cmp (S.2.1 41 15) 1751474532 = 0 ↔ sp_b (ex_st 14) (S.1 42) 0 4 (tk_s (S.1 42) n b) (tk_e (S.1 42) n b) = true) ∧ (lg_cmp (S.2.1 41 15) 1952541036 = 0 ↔ sp_b (ex_st 14) (S.1 42) 5 9 (tk_s (S.1 42) n b) (tk_e (S.1 42) n b) = true) ∧ (lg_cmp (S.2.1 41 15) 1886156147 = 0 ↔ sp_b (ex_st 14) (S.1 42) 10 14 (tk_s (S.1 42) n b) (tk_e (S.1 42) n b) = true) ∧ (lg_cmp (S.2.1 41 15) 1818588019 = 0 ↔ sp_b (ex_st 14) (S.1 42) 15 19 (tk_s (S.1 42) n b) (tk_e (S.1 42) n b) = true) ∧ (lg_cmp (S.2.1 41 15) 7237492 = 0 ↔ sp_b (ex_st 14) (S.1 42) 20 23 (tk_s (S.1 42) n b) (tk_e (S.1 42) n b) = true) := by
  have k1 : tk_k (S.1 42) n b = 1 := (h.k (k := 1) (by decide)).mp hk
  have e := h.2.2.2.2.2.2.2.2 k1
  rw [e]
  refine ⟨?_, ?_, ?_, ?_, ?_⟩
  · rw [lg_0, show (1751474532 : Int64) = tk_pf (ex_st 14) 0 (4 - 0) by decide +kernel]
    exact tk_p_eq k1 h.2.1 (by decide) (by decide) (fun i hi => ac_le ⟨0 + i, by omega⟩ (by show 0 + i ≠ 4; omega) (by show 0 + i ≠ 9; omega) (by show 0 + i ≠ 14; omega) (by show 0 + i ≠ 19; omega))
  · rw [lg_0, show (1952541036 : Int64) = tk_pf (ex_st 14) 5 (9 - 5) by decide +kernel]
    exact tk_p_eq k1 h.2.1 (by decide) (by decide) (fun i hi => ac_le ⟨5 + i, by omega⟩ (by show 5 + i ≠ 4; omega) (by show 5 + i ≠ 9; omega) (by show 5 + i ≠ 14; omega) (by show 5 + i ≠ 19; omega))
  · rw [lg_0, show (1886156147 : Int64) = tk_pf (ex_st 14) 10 (14 - 10) by decide +kernel]
    exact tk_p_eq k1 h.2.1 (by decide) (by decide) (fun i hi => ac_le ⟨10 + i, by omega⟩ (by show 10 + i ≠ 4; omega) (by show 10 + i ≠ 9; omega) (by show 10 + i ≠ 14; omega) (by show 10 + i ≠ 19; omega))
  · rw [lg_0, show (1818588019 : Int64) = tk_pf (ex_st 14) 15 (19 - 15) by decide +kernel]
    exact tk_p_eq k1 h.2.1 (by decide) (by decide) (fun i hi => ac_le ⟨15 + i, by omega⟩ (by show 15 + i ≠ 4; omega) (by show 15 + i ≠ 9; omega) (by show 15 + i ≠ 14; omega) (by show 15 + i ≠ 19; omega))
  · rw [lg_0, show (7237492 : Int64) = tk_pf (ex_st 14) 20 (23 - 20) by decide +kernel]
    exact tk_p_eq k1 h.2.1 (by decide) (by decide) (fun i hi => ac_le ⟨20 + i, by omega⟩ (by show 20 + i ≠ 4; omega) (by show 20 + i ≠ 9; omega) (by show 20 + i ≠ 14; omega) (by show 20 + i ≠ 19; omega))
theorem rc188_no {S U : ex_S} {r : Int32} (hU : rc184 (ex_sx S 52 3 (-1)) r U) (hw : ∀ n b, rtok S n b → pws 10 (S.1 42) n b = -1) : rc188 S r U := by
  obtain ⟨rfl, rfl⟩ := hU
  refine ⟨((ex_fw.refl _ S).sx (by unfold rp188; omega)).sx (by unfold rp188; omega), fun n b h => ⟨fun _ => ⟨rfl, ?_⟩, fun z => absurd (hw n b h) z⟩⟩
  rw [ex_sx_eq, ex_sx_ne (by omega), h.2.2.2.2.1]
theorem rc188_yes {S U : ex_S} {x : Int32} (hx : x ≠ -1) (hU : rc179 (ex_sx S 52 3 x) U) (hw : ∀ n b, rtok S n b → pws 10 (S.1 42) n b = x) : rc188 S 1 U := by
  refine ⟨((ex_fw.refl _ S).sx (by unfold rp188; omega)).trans (hU.1.mono (fun a k z => by unfold rp179 at z; unfold rp188; omega)), fun n b h => ⟨fun z => absurd ((hw n b h).symm.trans z) hx, fun _ => ⟨rfl, ?_, ?_⟩⟩⟩
  · have t : tr_at (ex_sx S 52 3 x) n (tk_e (S.1 42) n b) := h.at
    exact hU.tok t
  · rw [hU.1.1 52 3 (by unfold rp179; omega), ex_sx_eq, hw n b h]
theorem ec188 : es188 rc188 := by
  have P : ∀ {S : ex_S} {n b : Nat}, rtok S n b → S.1 41 13 = 2 → pws 10 (S.1 42) n b = wa 10 (fun f l => sp_b (ex_st 14) (S.1 42) f l (tk_s (S.1 42) n b) (tk_e (S.1 42) n b)) := by
    intro S n b h hk
    unfold pws
    rw [if_pos ((h.k (k := 1) (by decide)).mp hk)]
  refine ev188 ec179 ec184 ?_ ?_ ?_ ?_ ?_ ?_ ?_
  · intro S c r U hU
    refine rc188_no hU (fun n b h => ?_)
    unfold pws
    rw [if_neg (fun z => c ((h.k (k := 1) (by decide)).mpr z))]
  · intro S c c1 c2 c3 c4 c5 r U hU
    have c := Classical.not_not.mp c
    refine rc188_no hU (fun n b h => ?_)
    obtain ⟨a1, a2, a3, a4, a5⟩ := ac_w h c
    rw [P h c, wa_10, if_neg (fun z => c1 (a1.mpr z)), if_neg (fun z => c2 (a2.mpr z)), if_neg (fun z => c3 (a3.mpr z)), if_neg (fun z => c4 (a4.mpr z)), if_neg (fun z => c5 (a5.mpr z))]
  · intro S c c1 c2 c3 c4 c5 U hU
    have c := Classical.not_not.mp c
    refine rc188_yes (by decide) hU (fun n b h => ?_)
    obtain ⟨a1, a2, a3, a4, a5⟩ := ac_w h c
    rw [P h c, wa_10, if_neg (fun z => c1 (a1.mpr z)), if_neg (fun z => c2 (a2.mpr z)), if_neg (fun z => c3 (a3.mpr z)), if_neg (fun z => c4 (a4.mpr z)), if_pos (a5.mp (Classical.not_not.mp c5))]
  · intro S c c1 c2 c3 c4 U hU
    have c := Classical.not_not.mp c
    refine rc188_yes (by decide) hU (fun n b h => ?_)
    obtain ⟨a1, a2, a3, a4, a5⟩ := ac_w h c
    rw [P h c, wa_10, if_neg (fun z => c1 (a1.mpr z)), if_neg (fun z => c2 (a2.mpr z)), if_neg (fun z => c3 (a3.mpr z)), if_pos (a4.mp (Classical.not_not.mp c4))]
  · intro S c c1 c2 c3 U hU
    have c := Classical.not_not.mp c
    refine rc188_yes (by decide) hU (fun n b h => ?_)
    obtain ⟨a1, a2, a3, a4, a5⟩ := ac_w h c
    rw [P h c, wa_10, if_neg (fun z => c1 (a1.mpr z)), if_neg (fun z => c2 (a2.mpr z)), if_pos (a3.mp (Classical.not_not.mp c3))]
  · intro S c c1 c2 U hU
    have c := Classical.not_not.mp c
    refine rc188_yes (by decide) hU (fun n b h => ?_)
    obtain ⟨a1, a2, a3, a4, a5⟩ := ac_w h c
    rw [P h c, wa_10, if_neg (fun z => c1 (a1.mpr z)), if_pos (a2.mp (Classical.not_not.mp c2))]
  · intro S c c1 U hU
    have c := Classical.not_not.mp c
    refine rc188_yes (by decide) hU (fun n b h => ?_)
    obtain ⟨a1, a2, a3, a4, a5⟩ := ac_w h c
    rw [P h c, wa_10, if_pos (a1.mp (Classical.not_not.mp c1))]
/-- a NUMBER is 0 to 99 -/
theorem tk_di_b {x : Int32} (h : tk_di x = true) : 48 ≤ x.toInt ∧ x.toInt ≤ 57 := by
  unfold tk_di at h
  rw [decide_eq_true_eq] at h
  exact ⟨Int32.le_iff_toInt_le.mp h.1, Int32.le_iff_toInt_le.mp h.2⟩
theorem tk_v_b {T : Nat → Int32} {n b : Nat} (h : tk_k T n b = 2) : 0 ≤ (tk_v T n b).toInt ∧ (tk_v T n b).toInt ≤ 99 := by
  have hs : tk_s T n b < n := (tk_e_gt (T := T) (n := n) (b := b) (by omega)).2
  have hd : tk_di (T (tk_s T n b)) = true ∧ tk_r tk_di T n (tk_s T n b) ≤ tk_s T n b + 2 := by
    unfold tk_k at h
    rw [if_pos hs] at h
    split at h
    · cases h
    · split at h
      · rename_i hd
        split at h
        · rename_i h2; exact ⟨hd, h2⟩
        · cases h
      · split at h <;> cases h
  have g1 := tk_r_lt hs hd.1
  have d0 := tk_di_b hd.1
  have a1 : (0 * 10 + T (tk_s T n b) - 48 : Int32).toInt = (T (tk_s T n b)).toInt - 48 := by
    have z : (0 * 10 : Int32) = 0 := by decide
    rw [z, Int32.zero_add]
    exact Jvm.Kit.i32_sub (by show _ ≤ _ - (48 : Int); omega) (by show _ - (48 : Int) < _; omega)
  unfold tk_v tk_dv
  rw [if_neg (by omega)]
  by_cases h1 : tk_r tk_di T n (tk_s T n b) = tk_s T n b + 1
  · rw [if_pos h1, a1]; omega
  · rw [if_neg h1]
    have d1 := tk_di_b (tk_r_all (p := tk_di) (T := T) (n := n) (i := tk_s T n b) (j := tk_s T n b + 1) (by omega) (by omega))
    have a2 : ((0 * 10 + T (tk_s T n b) - 48) * 10 : Int32).toInt = ((T (tk_s T n b)).toInt - 48) * 10 := by
      have := Jvm.Kit.i32_mul (x := 0 * 10 + T (tk_s T n b) - 48) (y := 10) (by rw [a1]; show _ ≤ _ * (10 : Int); omega) (by rw [a1]; show _ * (10 : Int) < _; omega)
      rw [this, a1]; rfl
    have a3 : ((0 * 10 + T (tk_s T n b) - 48) * 10 + T (tk_s T n b + 1) : Int32).toInt = ((T (tk_s T n b)).toInt - 48) * 10 + (T (tk_s T n b + 1)).toInt := by
      have := Jvm.Kit.i32_add (x := (0 * 10 + T (tk_s T n b) - 48) * 10) (y := T (tk_s T n b + 1)) (by rw [a2]; omega) (by rw [a2]; omega)
      rw [this, a2]
    have a4 : ((0 * 10 + T (tk_s T n b) - 48) * 10 + T (tk_s T n b + 1) - 48 : Int32).toInt = ((T (tk_s T n b)).toInt - 48) * 10 + (T (tk_s T n b + 1)).toInt - 48 := by
      have := Jvm.Kit.i32_sub (x := (0 * 10 + T (tk_s T n b) - 48) * 10 + T (tk_s T n b + 1)) (y := 48) (by rw [a3]; show _ ≤ _ - (48 : Int); omega) (by rw [a3]; show _ - (48 : Int) < _; omega)
      rw [this, a3]; rfl
    rw [a4]; omega
theorem rb_plain {w j : Nat} {l : Nat → Int32} {v most : Int32} (hv : 0 ≤ v.toInt) (hg : pgr w j = most) (h3 : w ≠ 3) (h24 : ¬ ((w = 2 ∨ w = 4) ∧ j = 1)) (hl : l j = v) : rbad most (-1) v = pbad w j l := by
  have nv : ¬ v = -1 := fun z => by
    rw [z] at hv
    have e1 : (-1 : Int32).toInt = -1 := rfl
    omega
  unfold rbad pbad
  rw [hg, hl, decide_eq_false h3]
  have e : ((decide (w = 2) || decide (w = 4)) && (decide (j = 1) && decide (l 1 = l 0))) = false := by
    cases hx : ((decide (w = 2) || decide (w = 4)) && (decide (j = 1) && decide (l 1 = l 0))) with
    | false => rfl
    | true =>
      simp only [Bool.and_eq_true, Bool.or_eq_true, decide_eq_true_eq] at hx
      exact absurd ⟨hx.1, hx.2.1⟩ h24
  rw [e, Bool.false_and, Bool.or_false, Bool.or_false]
  by_cases h : most < v
  · rw [decide_eq_true h, decide_eq_true (Or.inl h)]
  · rw [decide_eq_false h, decide_eq_false (fun z => z.elim h nv)]
theorem rb_self {w : Nat} {l : Nat → Int32} {v most but : Int32} (hg : pgr w 1 = most) (h24 : w = 2 ∨ w = 4) (hl : l 1 = v) (h0 : l 0 = but) : rbad most but v = pbad w 1 l := by
  unfold rbad pbad
  rw [hg, hl, h0, decide_eq_false (show ¬ w = 3 by omega), Bool.false_and, Bool.false_or]
  have e : (decide (w = 2) || decide (w = 4)) = true := by simp only [Bool.or_eq_true, decide_eq_true_eq]; exact h24
  rw [e, Bool.true_and, decide_eq_true (rfl : (1 : Nat) = 1), Bool.true_and]
  by_cases h : most < v
  · rw [decide_eq_true h, decide_eq_true (Or.inl h), Bool.true_or]
  · rw [decide_eq_false h, Bool.false_or]
    by_cases hb : v = but
    · rw [decide_eq_true hb, decide_eq_true (Or.inr hb)]
    · rw [decide_eq_false hb, decide_eq_false (fun z => z.elim h hb)]
/-- behind j NUMBERS of a line -/
def rn (S : ex_S) (T : Nat → Int32) (n w b j off : Nat) (A : pA) : Prop := S.1 42 = T ∧ rtok S n (nb T n b j) ∧ rqf S (pan T n w b A j) (tk_s T n (nb T n b j)) ∧ (∀ i, i < j → S.1 52 (off + i) = tk_v T n (nb T n b i)) ∧ pl_f T n (pnl w - j) (nb T n b j) = pl_f T n (pnl w) b ∧ (S.1 41 22 = 0 → pf (pan T n w b A j) ≠ 0)
theorem pnote_tr {A : pA} {f p : Int32} (hf : f ≠ 0) : pf (pnote A true f p) ≠ 0 := by
  unfold pnote
  by_cases h0 : pf A = 0
  · rw [if_pos ⟨h0, rfl⟩]; exact hf
  · rw [if_neg (fun z => h0 z.1)]; exact h0
theorem rn.take {S S_q : ex_S} {T : Nat → Int32} {n w b j off : Nat} {A : pA} {k most but v : Int32} (h : rn S T n w b j off A) (ht : rc183 k most but S v S_q) (hj : j < pnl w) (hk : k = Int32.ofNat (off + j)) (ho : off + j < 4) (hb : tk_k T n (nb T n b j) = 2 → rbad most but (tk_v T n (nb T n b j)) = pbad w j (pll T n w b)) : (v = 0 → ∃ p, pl_f T n (pnl w) b = some p ∧ S_q.1 41 16 = Int32.ofNat p) ∧ (v ≠ 0 → v = 1 ∧ rn S_q T n w b (j + 1) off A) := by
  obtain ⟨e, t, r, rd, pl, gd⟩ := h
  obtain ⟨g1, g2⟩ := ht.2 n (nb T n b j) t
  rw [e] at g1 g2
  by_cases k2 : tk_k T n (nb T n b j) = 2
  · obtain ⟨h1, h2, h3, h4, h5, h6⟩ := g2 k2
    refine ⟨fun z => absurd (h1.symm.trans z) (by decide), fun _ => ⟨h1, ?_⟩⟩
    have hb := hb k2
    have gt := tk_e_gt (T := T) (n := n) (b := nb T n b j) (by omega)
    have gs := tk_s_ge (T := T) (n := n) (b := tk_e T n (nb T n b j))
    refine ⟨?_, h2, ?_, fun i hi => ?_, by rw [← pl, pl_fy hj k2], fun z => ?_⟩
    · funext i; rw [ht.1.1 42 i (by unfold rp183; omega), e]
    · have := h6 _ r
      rw [hb] at this
      exact this.keep rfl rfl (by show _ ≤ tk_s T n (tk_e T n (nb T n b j)); omega)
    · rw [h3, hk, n32_tn (by omega)]
      by_cases hij : i = j
      · rw [if_pos (by omega), hij]
      · rw [if_neg (by omega)]; exact rd i (by omega)
    · show pf (pnote (pan T n w b A j) (pbad w j (pll T n w b)) 2 _) ≠ 0
      cases hc : pbad w j (pll T n w b) with
      | true => exact pnote_tr (by decide)
      | false =>
        rw [pnote_f]
        exact gd ((h5 (hb.trans hc)).1.symm.trans z)
  · obtain ⟨h1, h2⟩ := g1 k2
    refine ⟨fun _ => ⟨_, ?_, h2⟩, fun z => absurd h1 z⟩
    rw [← pl, pl_fn hj k2]
theorem pll_lt {T : Nat → Int32} {n w b j : Nat} (h : j < pnl w) : pll T n w b j = tk_v T n (nb T n b j) := by unfold pll; rw [if_pos h]
/-- the plain tests of a line's numbers -/
theorem rn.tp {S S_q : ex_S} {T : Nat → Int32} {n w b j off : Nat} {A : pA} {k most v : Int32} (h : rn S T n w b j off A) (ht : rc183 k most (-1) S v S_q) (hj : j < pnl w) (hk : k = Int32.ofNat (off + j)) (ho : off + j < 4) (hg : pgr w j = most) (h3 : w ≠ 3) (h24 : ¬ ((w = 2 ∨ w = 4) ∧ j = 1)) : (v = 0 → ∃ p, pl_f T n (pnl w) b = some p ∧ S_q.1 41 16 = Int32.ofNat p) ∧ (v ≠ 0 → v = 1 ∧ rn S_q T n w b (j + 1) off A) :=
  h.take ht hj hk ho (fun k2 => rb_plain (tk_v_b k2).1 hg h3 h24 (pll_lt hj))
theorem rn.ts {S S_q : ex_S} {T : Nat → Int32} {n w b off : Nat} {A : pA} {k most but v : Int32} (h : rn S T n w b 1 off A) (ht : rc183 k most but S v S_q) (hj : 1 < pnl w) (hk : k = Int32.ofNat (off + 1)) (ho : off + 1 < 4) (hg : pgr w 1 = most) (h24 : w = 2 ∨ w = 4) (hbut : but = S.1 52 off) : (v = 0 → ∃ p, pl_f T n (pnl w) b = some p ∧ S_q.1 41 16 = Int32.ofNat p) ∧ (v ≠ 0 → v = 1 ∧ rn S_q T n w b 2 off A) :=
  h.take ht hj hk ho (fun k2 => rb_self hg h24 (pll_lt hj) (by rw [pll_lt (by omega), hbut]; exact (h.2.2.2.1 0 (by decide)).symm))
end
section
def pl_pre (T : Nat → Int32) (n w b : Nat) : Option Nat := match pl_f T n (pnl w) b with | some p => some p | none => if w = 0 then (if pws 10 T n (nb T n b 3) = -1 then some (tk_s T n (nb T n b 3)) else none) else none
def bst (T : Nat → Int32) (n w b : Nat) : Nat := if w = 0 then tk_e T n (nb T n b 3) else nb T n b (pnl w)
theorem pl_pre_s {T : Nat → Int32} {n w b p : Nat} (h : pl_f T n (pnl w) b = some p) : pl_pre T n w b = some p := by unfold pl_pre; rw [h]
theorem pl_pre_n {T : Nat → Int32} {n w b : Nat} (h : pl_f T n (pnl w) b = none) (h0 : w ≠ 0) : pl_pre T n w b = none := by unfold pl_pre; rw [h]; exact if_neg h0
theorem pl_fail_s {T : Nat → Int32} {n w b p : Nat} (h : pl_pre T n w b = some p) : pl_fail T n w b = some p := by
  unfold pl_pre at h
  unfold pl_fail
  cases hf : pl_f T n (pnl w) b with
  | some q => rw [hf] at h; exact h
  | none =>
    rw [hf] at h
    show pl_t T n w (nb T n b (pnl w)) = some p
    have h_q : (if w = 0 then (if pws 10 T n (nb T n b 3) = -1 then some (tk_s T n (nb T n b 3)) else none) else none) = some p := h
    split at h_q
    · rename_i w0
      split at h_q
      · rename_i e
        unfold pl_t
        subst w0
        rw [if_pos rfl]
        have e3 : pnl 0 = 3 := rfl
        rw [e3, if_pos e]; exact h_q
      · cases h_q
    · cases h_q
theorem pl_fail_n {T : Nat → Int32} {n w b : Nat} (h : pl_pre T n w b = none) : pl_fail T n w b = pl_s T n (bst T n w b) := by
  unfold pl_pre at h
  unfold pl_fail
  cases hf : pl_f T n (pnl w) b with
  | some q => rw [hf] at h; cases h
  | none =>
    rw [hf] at h
    show pl_t T n w (nb T n b (pnl w)) = _
    have h_q : (if w = 0 then (if pws 10 T n (nb T n b 3) = -1 then some (tk_s T n (nb T n b 3)) else none) else none) = none := h
    unfold pl_t bst
    split at h_q
    · rename_i w0
      subst w0
      rw [if_pos rfl, if_pos rfl]
      have e3 : pnl 0 = 3 := rfl
      rw [e3]
      split at h_q
      · cases h_q
      · rename_i e; rw [if_neg e]
    · rename_i w0; rw [if_neg w0, if_neg w0]
theorem pl_end_bst {T : Nat → Int32} {n w b : Nat} : pl_end T n w b = tk_e T n (bst T n w b) := by
  unfold pl_end bst
  by_cases h : w = 0
  · subst h; rw [if_pos rfl, if_pos rfl]; rfl
  · rw [if_neg h, if_neg h]
/-- what the reference's told row holds, sort by sort -/
def rqc0 (S : ex_S) (A : pA) : Prop := S.1 51 0 = Int32.ofNat (pic A) ∧ pic A ≤ 10 ∧ S.1 51 1 = Int32.ofNat (prc A) ∧ prc A ≤ 16 ∧ (∀ k j, k < pic A → j < 4 → S.1 51 (2 + 4 * k + j) = pit A k j) ∧ (∀ k j, k < prc A → j < 3 → S.1 51 (42 + 3 * k + j) = prd A k j) ∧ ∀ k, k < 10 → S.1 51 (90 + k) = pnr A k
def rqc2 (S : ex_S) (A : pA) : Prop := S.1 51 0 = pst A ∧ S.1 51 1 = Int32.ofNat (pic A) ∧ pic A ≤ 50 ∧ S.1 41 21 = phi A ∧ ∀ k j, k < pic A → j < 3 → S.1 51 (2 + 3 * k + j) = pit A k j
def rqc3 (S : ex_S) (A : pA) : Prop := S.1 51 0 = Int32.ofNat (pic A) ∧ pic A ≤ 8 ∧ ∀ k j, k < pic A → j < 3 → S.1 51 (1 + 3 * k + j) = pit A k j
/-- what a line leaves alone -/
def rpn (a k : Nat) : Prop := (a = 41 ∧ 10 ≤ k ∧ k ≤ 22 ∧ k ≠ 11 ∧ k ≠ 21) ∨ a = 52
def rpl (a k : Nat) : Prop := (a = 41 ∧ 10 ≤ k ∧ k ≤ 22 ∧ k ≠ 11) ∨ a = 52 ∨ a = 51
theorem rpn_l : ∀ a k, rpn a k → rpl a k := fun a k z => by unfold rpn at z; unfold rpl; omega
theorem rp179_n : ∀ a k, rp179 a k → rpn a k := fun a k z => by unfold rp179 at z; unfold rpn; omega
theorem rp182_n : ∀ a k, rp182 a k → rpn a k := fun a k z => by unfold rp182 at z; unfold rpn; omega
theorem rp183_n : ∀ a k, rp183 a k → rpn a k := fun a k z => by unfold rp183 at z; unfold rpn; omega
theorem rp188_n : ∀ a k, rp188 a k → rpn a k := fun a k z => by unfold rp188 at z; unfold rpn; omega
theorem fw42 {S T : ex_S} (F : ex_fw rpn S T) : T.1 42 = S.1 42 := by funext j; exact F.1 42 j (by unfold rpn; omega)
/-- what a line is asked -/
def rql (w64 : Int64) (at_ : Int32) (S : ex_S) (n b : Nat) (A : pA) : Prop := rtok S n b ∧ at_ = Int32.ofNat (tk_s (S.1 42) n b) ∧ w64 = rwd (S.1 42) n b ∧ S.1 41 22 = 1 ∧ rqf S A (tk_s (S.1 42) n b)
/-- and answers; R: what is told -/
def rcl (sort : Int32) (R : ex_S → pA → Prop) (w64 : Int64) (at_ : Int32) (S : ex_S) (v : Int32) (S_q : ex_S) : Prop := ex_fw rpl S S_q ∧ ∀ n b A, rql w64 at_ S n b A → (pf A = 0 → R S A) → (pfw sort (S.1 42) n b = -1 → v = 0 ∧ S_q.1 41 16 = Int32.ofNat (tk_s (S.1 42) n b)) ∧ ∀ w, w < 13 → pfw sort (S.1 42) n b = Int32.ofNat w → (∀ p, pl_pre (S.1 42) n w (tk_e (S.1 42) n b) = some p → v = 0 ∧ S_q.1 41 16 = Int32.ofNat p) ∧ (pl_pre (S.1 42) n w (tk_e (S.1 42) n b) = none → v = 1 ∧ rtok S_q n (bst (S.1 42) n w (tk_e (S.1 42) n b)) ∧ rqf S_q (pline (S.1 42) n w (tk_s (S.1 42) n b) (tk_e (S.1 42) n b) A) (tk_s (S.1 42) n (bst (S.1 42) n w (tk_e (S.1 42) n b))) ∧ (pf (pline (S.1 42) n w (tk_s (S.1 42) n b) (tk_e (S.1 42) n b) A) = 0 → R S_q (pline (S.1 42) n w (tk_s (S.1 42) n b) (tk_e (S.1 42) n b) A)))
/-- the first word's FAULT is noted -/
def ri (w : Nat) (R : ex_S → pA → Prop) (w64 : Int64) (at_ : Int32) (S T : ex_S) : Prop := ex_fw rp182 S T ∧ ∀ n b A, rql w64 at_ S n b A → (pf A = 0 → R S A) → rqf T (pnote A (pmany w A) 3 (Int32.ofNat (tk_s (S.1 42) n b))) (tk_s (S.1 42) n b + 1)
theorem ri_no {w : Nat} {R : ex_S → pA → Prop} {w64 : Int64} {at_ : Int32} {S : ex_S} (h : ∀ A, pf A = 0 → R S A → pmany w A = false) : ri w R w64 at_ S S := by
  refine ⟨ex_fw.refl _ S, fun n b A q hR => ?_⟩
  by_cases h0 : pf A = 0
  · rw [h A h0 (hR h0), pnote_f]; exact q.2.2.2.2.keep rfl rfl (by omega)
  · rw [pnote_ne h0]; exact q.2.2.2.2.keep rfl rfl (by omega)
theorem ri_yes {w : Nat} {R : ex_S → pA → Prop} {w64 : Int64} {at_ : Int32} {S T : ex_S} (hT : rc182 3 at_ S T) (h : ∀ A, pf A = 0 → R S A → pmany w A = true) : ri w R w64 at_ S T := by
  refine ⟨hT.fw, fun n b A q hR => ?_⟩
  have hs := tk_s_le (T := S.1 42) q.1.2.1
  have hn := q.1.2.2.1
  rw [q.2.1] at hT
  have := hT.note q.2.2.2.2 (by omega) (by decide)
  by_cases h0 : pf A = 0
  · rw [h A h0 (hR h0)]; exact this
  · rw [pnote_ne h0] at this ⊢; exact this
/-- the numbers begin -/
theorem ri.start {w : Nat} {R : ex_S → pA → Prop} {w64 : Int64} {at_ : Int32} {S T U : ex_S} {n b off : Nat} {A : pA} (h : ri w R w64 at_ S T) (hU : rc179 T U) (q : rql w64 at_ S n b A) (hR : pf A = 0 → R S A) (hk : tk_k (S.1 42) n b ≠ 0) : rn U (S.1 42) n w (tk_e (S.1 42) n b) 0 off (pnote A (pmany w A) 3 (Int32.ofNat (tk_s (S.1 42) n b))) := by
  have F : ex_fw rpn S T := h.1.mono rp182_n
  have e42 := fw42 F
  have t := q.1.at
  have tT : tr_at T n (tk_e (S.1 42) n b) := ⟨(F.1 41 11 (by unfold rpn; omega)).trans t.1, (h.1.1 41 10 (by unfold rp182; omega)).trans t.2.1, t.2.2.1, t.2.2.2.1, fun i => by rw [e42]; exact t.2.2.2.2 i⟩
  have gt := tk_e_gt hk
  have gs := tk_s_ge (T := S.1 42) (n := n) (b := tk_e (S.1 42) n b)
  refine ⟨hU.t42.trans e42, hU.tok tT, ?_, fun i hi => absurd hi (by omega), rfl, fun z => ?_⟩
  · exact (h.2 n b A q hR).keep (hU.1.1 41 17 (by unfold rp179; omega)) (hU.1.1 41 18 (by unfold rp179; omega)) (by show _ ≤ tk_s (S.1 42) n (tk_e (S.1 42) n b); omega)
  · rw [hU.1.1 41 22 (by unfold rp179; omega), h.1.1 41 22 (by unfold rp182; omega), q.2.2.2.1] at z
    exact absurd z (by decide)
/-- a line that stops among its numbers -/
theorem rcl_stop {sort : Int32} {R : ex_S → pA → Prop} {S S_q : ex_S} {n b w0 p : Nat} {A : pA} {v : Int32} (hw : pfw sort (S.1 42) n b = Int32.ofNat w0) (hw0 : w0 < 13) (hv : v = 0) (hp : pl_pre (S.1 42) n w0 (tk_e (S.1 42) n b) = some p) (h16 : S_q.1 41 16 = Int32.ofNat p) : (pfw sort (S.1 42) n b = -1 → v = 0 ∧ S_q.1 41 16 = Int32.ofNat (tk_s (S.1 42) n b)) ∧ ∀ w, w < 13 → pfw sort (S.1 42) n b = Int32.ofNat w → (∀ p, pl_pre (S.1 42) n w (tk_e (S.1 42) n b) = some p → v = 0 ∧ S_q.1 41 16 = Int32.ofNat p) ∧ (pl_pre (S.1 42) n w (tk_e (S.1 42) n b) = none → v = 1 ∧ rtok S_q n (bst (S.1 42) n w (tk_e (S.1 42) n b)) ∧ rqf S_q (pline (S.1 42) n w (tk_s (S.1 42) n b) (tk_e (S.1 42) n b) A) (tk_s (S.1 42) n (bst (S.1 42) n w (tk_e (S.1 42) n b))) ∧ (pf (pline (S.1 42) n w (tk_s (S.1 42) n b) (tk_e (S.1 42) n b) A) = 0 → R S_q (pline (S.1 42) n w (tk_s (S.1 42) n b) (tk_e (S.1 42) n b) A))) := by
  refine ⟨fun z => absurd (hw.symm.trans z) (n32_m1 (by omega)), fun w hw13 e => ?_⟩
  have : w = w0 := n32_w hw13 (by omega) (e.symm.trans hw)
  subst this
  refine ⟨fun q z => ?_, fun z => (by rw [hp] at z; cases z)⟩
  rw [hp] at z
  cases z
  exact ⟨hv, h16⟩
/-- a line that is one -/
theorem rcl_goes {sort : Int32} {R : ex_S → pA → Prop} {S S_q : ex_S} {n b w0 : Nat} {A : pA} {v : Int32} (hw : pfw sort (S.1 42) n b = Int32.ofNat w0) (hw0 : w0 < 13) (hv : v = 1) (hp : pl_pre (S.1 42) n w0 (tk_e (S.1 42) n b) = none) (h1 : rtok S_q n (bst (S.1 42) n w0 (tk_e (S.1 42) n b))) (h2 : rqf S_q (pline (S.1 42) n w0 (tk_s (S.1 42) n b) (tk_e (S.1 42) n b) A) (tk_s (S.1 42) n (bst (S.1 42) n w0 (tk_e (S.1 42) n b)))) (h3 : pf (pline (S.1 42) n w0 (tk_s (S.1 42) n b) (tk_e (S.1 42) n b) A) = 0 → R S_q (pline (S.1 42) n w0 (tk_s (S.1 42) n b) (tk_e (S.1 42) n b) A)) : (pfw sort (S.1 42) n b = -1 → v = 0 ∧ S_q.1 41 16 = Int32.ofNat (tk_s (S.1 42) n b)) ∧ ∀ w, w < 13 → pfw sort (S.1 42) n b = Int32.ofNat w → (∀ p, pl_pre (S.1 42) n w (tk_e (S.1 42) n b) = some p → v = 0 ∧ S_q.1 41 16 = Int32.ofNat p) ∧ (pl_pre (S.1 42) n w (tk_e (S.1 42) n b) = none → v = 1 ∧ rtok S_q n (bst (S.1 42) n w (tk_e (S.1 42) n b)) ∧ rqf S_q (pline (S.1 42) n w (tk_s (S.1 42) n b) (tk_e (S.1 42) n b) A) (tk_s (S.1 42) n (bst (S.1 42) n w (tk_e (S.1 42) n b))) ∧ (pf (pline (S.1 42) n w (tk_s (S.1 42) n b) (tk_e (S.1 42) n b) A) = 0 → R S_q (pline (S.1 42) n w (tk_s (S.1 42) n b) (tk_e (S.1 42) n b) A))) := by
  refine ⟨fun z => absurd (hw.symm.trans z) (n32_m1 (by omega)), fun w hw13 e => ?_⟩
  have : w = w0 := n32_w hw13 (by omega) (e.symm.trans hw)
  subst this
  exact ⟨fun q z => (by rw [hp] at z; cases z), fun _ => ⟨hv, h1, h2, h3⟩⟩
/-- keeping leaves the FAULT -/
theorem pkeep_f {w : Nat} {l : Nat → Int32} {A : pA} : pf (pkeep w l A) = pf A ∧ pp (pkeep w l A) = pp A := by
  by_cases hw : 4 ≤ w
  · rw [pkeep_4 hw]; exact ⟨rfl, rfl⟩
  · rcases (show w = 0 ∨ w = 1 ∨ w = 2 ∨ w = 3 by omega) with z | z | z | z <;> subst z
    · rw [pkeep_0]; exact ⟨rfl, rfl⟩
    · rw [pkeep_1]; exact ⟨rfl, rfl⟩
    · rw [pkeep_2]; exact ⟨rfl, rfl⟩
    · rw [pkeep_3]; exact ⟨rfl, rfl⟩
theorem pline_f {T : Nat → Int32} {n w s b : Nat} {A : pA} : pf (pline T n w s b A) = pf (pan T n w b (pnote A (pmany w A) 3 (Int32.ofNat s)) (pnl w)) ∧ pp (pline T n w s b A) = pp (pan T n w b (pnote A (pmany w A) 3 (Int32.ofNat s)) (pnl w)) := by
  unfold pline
  split
  · exact pkeep_f
  · exact ⟨rfl, rfl⟩
theorem rqf.line {S : ex_S} {T : Nat → Int32} {n w s b m : Nat} {A : pA} (h : rqf S (pan T n w b (pnote A (pmany w A) 3 (Int32.ofNat s)) (pnl w)) m) : rqf S (pline T n w s b A) m := by
  obtain ⟨e1, e2⟩ := pline_f (T := T) (n := n) (w := w) (s := s) (b := b) (A := A)
  unfold rqf
  rw [e1, e2]; exact h
/-- without a FAULT the line is kept, and nothing was noted -/
theorem pline_0 {T : Nat → Int32} {n w s b : Nat} {A : pA} (h : pf (pline T n w s b A) = 0) : pline T n w s b A = pkeep w (pll T n w b) A ∧ pf A = 0 ∧ pmany w A = false := by
  have h_q := h
  rw [pline_f.1] at h
  obtain ⟨e1, e2⟩ := pan_0 h
  obtain ⟨e3, e4, e5⟩ := pnote_0 (by decide) e2
  refine ⟨?_, e3, e4⟩
  unfold pline
  rw [if_pos h, e1, e5]
end
