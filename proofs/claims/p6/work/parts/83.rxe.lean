/-! HOUSE lines -/
theorem ho_le : ∀ i : Fin 33, i.val ≠ 5 → i.val ≠ 10 → i.val ≠ 16 → i.val ≠ 21 → i.val ≠ 28 → tk_le (ex_st 13 i.val) = true := by decide +kernel
theorem ho_r {T : Nat → Int32} {n b f l : Nat} {c : Int64} (hb : b ≤ n) (hm : 1 ≤ l - f) (hm8 : l - f ≤ 8) (hl : l ≤ 33) (hx : ∀ i, i < l - f → f + i ≠ 5 ∧ f + i ≠ 10 ∧ f + i ≠ 16 ∧ f + i ≠ 21 ∧ f + i ≠ 28) (hc : c = tk_pf (ex_st 13) f (l - f)) (h0 : c ≠ 0) : lg_cmp (rwd T n b) c = 0 ↔ tk_k T n b = 1 ∧ sp_b (ex_st 13) T f l (tk_s T n b) (tk_e T n b) = true :=
  rwd_eq hb hm hm8 (fun i hi => ho_le ⟨f + i, by omega⟩ (hx i hi).1 (hx i hi).2.1 (hx i hi).2.2.1 (hx i hi).2.2.2.1 (hx i hi).2.2.2.2) hc h0
theorem ho_w {T : Nat → Int32} {n b : Nat} (hb : b ≤ n) :
    (lg_cmp (rwd T n b) 474148660594 = 0 → pfw 3 T n b = Int32.ofNat 7 ∧ tk_k T n b = 1) ∧
    (¬ lg_cmp (rwd T n b) 474148660594 = 0 → lg_cmp (rwd T n b) 1836020596 = 0 → pfw 3 T n b = Int32.ofNat 8 ∧ tk_k T n b = 1) ∧
    (¬ lg_cmp (rwd T n b) 474148660594 = 0 → ¬ lg_cmp (rwd T n b) 1836020596 = 0 → lg_cmp (rwd T n b) 478660552050 = 0 → pfw 3 T n b = Int32.ofNat 9 ∧ tk_k T n b = 1) ∧
    (¬ lg_cmp (rwd T n b) 474148660594 = 0 → ¬ lg_cmp (rwd T n b) 1836020596 = 0 → ¬ lg_cmp (rwd T n b) 478660552050 = 0 → lg_cmp (rwd T n b) 1885432178 = 0 → pfw 3 T n b = Int32.ofNat 10 ∧ tk_k T n b = 1) ∧
    (¬ lg_cmp (rwd T n b) 474148660594 = 0 → ¬ lg_cmp (rwd T n b) 1836020596 = 0 → ¬ lg_cmp (rwd T n b) 478660552050 = 0 → ¬ lg_cmp (rwd T n b) 1885432178 = 0 → lg_cmp (rwd T n b) 114801865155950 = 0 → pfw 3 T n b = Int32.ofNat 11 ∧ tk_k T n b = 1) ∧
    (¬ lg_cmp (rwd T n b) 474148660594 = 0 → ¬ lg_cmp (rwd T n b) 1836020596 = 0 → ¬ lg_cmp (rwd T n b) 478660552050 = 0 → ¬ lg_cmp (rwd T n b) 1885432178 = 0 → ¬ lg_cmp (rwd T n b) 114801865155950 = 0 → lg_cmp (rwd T n b) 1936024942 = 0 → pfw 3 T n b = Int32.ofNat 12 ∧ tk_k T n b = 1) ∧
    (¬ lg_cmp (rwd T n b) 474148660594 = 0 → ¬ lg_cmp (rwd T n b) 1836020596 = 0 → ¬ lg_cmp (rwd T n b) 478660552050 = 0 → ¬ lg_cmp (rwd T n b) 1885432178 = 0 → ¬ lg_cmp (rwd T n b) 114801865155950 = 0 → ¬ lg_cmp (rwd T n b) 1936024942 = 0 → pfw 3 T n b = -1) := by
  have a1 := ho_r (T := T) (f := 0) (l := 5) (c := 474148660594) hb (by decide) (by decide) (by decide) (fun i hi => by omega) (by decide +kernel) (by decide)
  have a2 := ho_r (T := T) (f := 6) (l := 10) (c := 1836020596) hb (by decide) (by decide) (by decide) (fun i hi => by omega) (by decide +kernel) (by decide)
  have a3 := ho_r (T := T) (f := 11) (l := 16) (c := 478660552050) hb (by decide) (by decide) (by decide) (fun i hi => by omega) (by decide +kernel) (by decide)
  have a4 := ho_r (T := T) (f := 17) (l := 21) (c := 1885432178) hb (by decide) (by decide) (by decide) (fun i hi => by omega) (by decide +kernel) (by decide)
  have a5 := ho_r (T := T) (f := 22) (l := 28) (c := 114801865155950) hb (by decide) (by decide) (by decide) (fun i hi => by omega) (by decide +kernel) (by decide)
  have a6 := ho_r (T := T) (f := 29) (l := 33) (c := 1936024942) hb (by decide) (by decide) (by decide) (fun i hi => by omega) (by decide +kernel) (by decide)
  have P : tk_k T n b = 1 → pws 9 T n b = wa 9 (fun f l => sp_b (ex_st 13) T f l (tk_s T n b) (tk_e T n b)) := fun h => by unfold pws; rw [if_pos h]
  have Q : pfw 3 T n b = if pws 9 T n b = -1 then -1 else 7 + pws 9 T n b := rfl
  refine ⟨fun h => ?_, fun h1 h => ?_, fun h1 h2 h => ?_, fun h1 h2 h3 h => ?_, fun h1 h2 h3 h4 h => ?_, fun h1 h2 h3 h4 h5 h => ?_, fun h1 h2 h3 h4 h5 h6 => ?_⟩
  · obtain ⟨k, s⟩ := a1.mp h
    refine ⟨?_, k⟩
    rw [Q, P k, wa_9, if_pos s]; decide
  · obtain ⟨k, s⟩ := a2.mp h
    refine ⟨?_, k⟩
    rw [Q, P k, wa_9, if_neg (fun z => h1 (a1.mpr ⟨k, z⟩)), if_pos s]; decide
  · obtain ⟨k, s⟩ := a3.mp h
    refine ⟨?_, k⟩
    rw [Q, P k, wa_9, if_neg (fun z => h1 (a1.mpr ⟨k, z⟩)), if_neg (fun z => h2 (a2.mpr ⟨k, z⟩)), if_pos s]; decide
  · obtain ⟨k, s⟩ := a4.mp h
    refine ⟨?_, k⟩
    rw [Q, P k, wa_9, if_neg (fun z => h1 (a1.mpr ⟨k, z⟩)), if_neg (fun z => h2 (a2.mpr ⟨k, z⟩)), if_neg (fun z => h3 (a3.mpr ⟨k, z⟩)), if_pos s]; decide
  · obtain ⟨k, s⟩ := a5.mp h
    refine ⟨?_, k⟩
    rw [Q, P k, wa_9, if_neg (fun z => h1 (a1.mpr ⟨k, z⟩)), if_neg (fun z => h2 (a2.mpr ⟨k, z⟩)), if_neg (fun z => h3 (a3.mpr ⟨k, z⟩)), if_neg (fun z => h4 (a4.mpr ⟨k, z⟩)), if_pos s]; decide
  · obtain ⟨k, s⟩ := a6.mp h
    refine ⟨?_, k⟩
    rw [Q, P k, wa_9, if_neg (fun z => h1 (a1.mpr ⟨k, z⟩)), if_neg (fun z => h2 (a2.mpr ⟨k, z⟩)), if_neg (fun z => h3 (a3.mpr ⟨k, z⟩)), if_neg (fun z => h4 (a4.mpr ⟨k, z⟩)), if_neg (fun z => h5 (a5.mpr ⟨k, z⟩)), if_pos s]; decide
  · rw [Q]
    by_cases k : tk_k T n b = 1
    · rw [P k, wa_9, if_neg (fun z => h1 (a1.mpr ⟨k, z⟩)), if_neg (fun z => h2 (a2.mpr ⟨k, z⟩)), if_neg (fun z => h3 (a3.mpr ⟨k, z⟩)), if_neg (fun z => h4 (a4.mpr ⟨k, z⟩)), if_neg (fun z => h5 (a5.mpr ⟨k, z⟩)), if_neg (fun z => h6 (a6.mpr ⟨k, z⟩))]; decide
    · have : pws 9 T n b = -1 := by unfold pws; rw [if_neg k]
      rw [this]; decide
/-- before its numbers a line may write into 52 -/
theorem rn.zero {S S' : ex_S} {T : Nat → Int32} {n w b off off' : Nat} {A : pA} (h : rn S T n w b 0 off A) (F : ex_fx (fun a _ => a = 52) S S') : rn S' T n w b 0 off' A := by
  obtain ⟨e, t, r, rd, pl, gd⟩ := h
  refine ⟨?_, t.keep (fun k _ _ => F.1 41 k (by omega)) (fun i => F.1 42 i (by omega)) (by rw [F.2]), r.keep (F.1 41 17 (by omega)) (F.1 41 18 (by omega)) (Nat.le_refl _), fun i hi => absurd hi (by omega), pl, fun z => gd ((F.1 41 22 (by omega)).symm.trans z)⟩
  funext i; rw [F.1 42 i (by omega), e]
theorem pmany_h {w : Nat} {A : pA} (hw : 7 ≤ w) (hw2 : w < 13) (h : pic A ≤ 8) : pmany w A = decide (pic A = 8) := by
  have hm : pmo w = 8 := by
    rcases (show w = 7 ∨ w = 8 ∨ w = 9 ∨ w = 10 ∨ w = 11 ∨ w = 12 by omega) with z | z | z | z | z | z <;> subst z <;> rfl
  unfold pmany pthere
  rw [if_neg (by omega), hm]
  by_cases e : pic A = 8
  · rw [decide_eq_true e, decide_eq_true ⟨by decide, by omega⟩]
  · rw [decide_eq_false e, decide_eq_false (fun z => by omega)]
theorem ho_nl {i : Nat} (h : i < 6) : pnl (7 + i) = (if i = 1 ∨ i = 2 ∨ i = 3 then 2 else 1) ∧ pgr (7 + i) 0 = 9 ∧ pgr (7 + i) 1 = (if i = 1 ∨ i = 2 ∨ i = 3 then 9 else 0) := by
  rcases (show i = 0 ∨ i = 1 ∨ i = 2 ∨ i = 3 ∨ i = 4 ∨ i = 5 by omega) with z | z | z | z | z | z <;> subst z <;> exact ⟨rfl, rfl, rfl⟩
/-- which law, as the reference finds it -/
def ri75 (w64 : Int64) (at_ : Int32) (S : ex_S) (x : Int32) (T : ex_S) : Prop := T = S ∧ ∀ (R : Nat → Int32) n b, b ≤ n → w64 = rwd R n b → (x = -1 → pfw 3 R n b = -1) ∧ (x ≠ -1 → ∃ i, i < 6 ∧ x = Int32.ofNat i ∧ pfw 3 R n b = Int32.ofNat (7 + i) ∧ tk_k R n b = 1)
def ri103 (w64 : Int64) (at_ : Int32) (S : ex_S) (x : Int32) (T : ex_S) : Prop := ex_fw rp182 S T ∧ (∀ i, i < 6 → x = Int32.ofNat i → ri (7 + i) rqc3 w64 at_ S T) ∧ ∀ (R : Nat → Int32) n b, b ≤ n → w64 = rwd R n b → ∃ i, i < 6 ∧ x = Int32.ofNat i ∧ pfw 3 R n b = Int32.ofNat (7 + i) ∧ tk_k R n b = 1
def ri163 (w64 : Int64) (at_ : Int32) (S T : ex_S) : Prop := ex_fw rpn S T ∧ ∀ n b A, rql w64 at_ S n b A → (pf A = 0 → rqc3 S A) → ∃ i, i < 6 ∧ pfw 3 (S.1 42) n b = Int32.ofNat (7 + i) ∧ T.1 52 0 = Int32.ofNat i ∧ (∀ j, pnl (7 + i) ≤ j → j < 2 → T.1 52 (1 + j) = -1) ∧ rn T (S.1 42) n (7 + i) (tk_e (S.1 42) n b) (pnl (7 + i)) 1 (pnote A (pmany (7 + i) A) 3 (Int32.ofNat (tk_s (S.1 42) n b)))
/-- the law's numbers begin -/
theorem ri103.start {w64 : Int64} {at_ x : Int32} {S T U V : ex_S} {n b : Nat} {A : pA} (h : ri103 w64 at_ S x T) (hU : rc179 T U) (hV : rc190 U V) (q : rql w64 at_ S n b A) (hR : pf A = 0 → rqc3 S A) : ∃ i, i < 6 ∧ x = Int32.ofNat i ∧ pfw 3 (S.1 42) n b = Int32.ofNat (7 + i) ∧ rn (ex_sx V 52 0 x) (S.1 42) n (7 + i) (tk_e (S.1 42) n b) 0 1 (pnote A (pmany (7 + i) A) 3 (Int32.ofNat (tk_s (S.1 42) n b))) := by
  obtain ⟨i, hi, hx, hp, hk⟩ := h.2.2 (S.1 42) n b q.1.2.1 q.2.2.1
  have st := (h.2.1 i hi hx).start (off := 1) hU q hR (by omega)
  exact ⟨i, hi, hx, hp, st.zero (hV.1.sx rfl)⟩
/-- a NUMBER that is taken goes to its place alone -/
theorem rn_k2 {S S' : ex_S} {T : Nat → Int32} {n w b j off i : Nat} {A : pA} {k most but v : Int32} (h : rn S T n w b j off A) (ht : rc183 k most but S v S') (hv : ¬ v = 0) (hi : i ≠ k.toNatClampNeg) : S'.1 52 i = S.1 52 i := by
  obtain ⟨e, t, r, rd, pl, gd⟩ := h
  obtain ⟨g1, g2⟩ := ht.2 n (nb T n b j) t
  rw [e] at g1 g2
  by_cases k2 : tk_k T n (nb T n b j) = 2
  · rw [(g2 k2).2.2.1 i, if_neg hi]
  · exact absurd (g1 k2).1 hv
theorem ec192 : es192 (rcl 3 rqc3) := by
  have FN : ∀ {w64 : Int64} {at_ x : Int32} {S T U V : ex_S}, ri103 w64 at_ S x T → rc179 T U → rc190 U V → ex_fw rpn S (ex_sx V 52 0 x) := fun h hU hV => (((h.1.mono rp182_n).trans (hU.1.mono rp179_n)).trans (hV.1.w.mono (fun a k z => by unfold rpn; omega))).sx (by unfold rpn; omega)
  refine ev192 (I75 := ri75) (I103 := ri103) (I163 := ri163) ec179 ec182 ec183 ec184 ec185 ec190 ?_ ?_ ?_ ?_ ?_ ?_ ?_ ?_ ?_ ?_ ?_ ?_ ?_ ?_ ?_ ?_ ?_ ?_ ?_
  · intro a at_ S c1 c2 c3 c4 c5 c6
    refine ⟨rfl, fun R n b hb e => ⟨fun _ => ?_, fun z => absurd rfl z⟩⟩
    rw [e] at c1 c2 c3 c4 c5 c6
    exact (ho_w hb).2.2.2.2.2.2 c1 c2 c3 c4 c5 c6
  · intro a at_ S c1 c2 c3 c4 c5 c6
    refine ⟨rfl, fun R n b hb e => ⟨fun z => absurd z (by decide), fun _ => ⟨5, by decide, rfl, ?_⟩⟩⟩
    rw [e] at c1 c2 c3 c4 c5 c6
    exact (ho_w hb).2.2.2.2.2.1 c1 c2 c3 c4 c5 (Classical.not_not.mp c6)
  · intro a at_ S c1 c2 c3 c4 c5
    refine ⟨rfl, fun R n b hb e => ⟨fun z => absurd z (by decide), fun _ => ⟨4, by decide, rfl, ?_⟩⟩⟩
    rw [e] at c1 c2 c3 c4 c5
    exact (ho_w hb).2.2.2.2.1 c1 c2 c3 c4 (Classical.not_not.mp c5)
  · intro a at_ S c1 c2 c3 c4
    refine ⟨rfl, fun R n b hb e => ⟨fun z => absurd z (by decide), fun _ => ⟨3, by decide, rfl, ?_⟩⟩⟩
    rw [e] at c1 c2 c3 c4
    exact (ho_w hb).2.2.2.1 c1 c2 c3 (Classical.not_not.mp c4)
  · intro a at_ S c1 c2 c3
    refine ⟨rfl, fun R n b hb e => ⟨fun z => absurd z (by decide), fun _ => ⟨2, by decide, rfl, ?_⟩⟩⟩
    rw [e] at c1 c2 c3
    exact (ho_w hb).2.2.1 c1 c2 (Classical.not_not.mp c3)
  · intro a at_ S c1 c2
    refine ⟨rfl, fun R n b hb e => ⟨fun z => absurd z (by decide), fun _ => ⟨1, by decide, rfl, ?_⟩⟩⟩
    rw [e] at c1 c2
    exact (ho_w hb).2.1 c1 (Classical.not_not.mp c2)
  · intro a at_ S c1
    refine ⟨rfl, fun R n b hb e => ⟨fun z => absurd z (by decide), fun _ => ⟨0, by decide, rfl, ?_⟩⟩⟩
    rw [e] at c1
    exact (ho_w hb).1 (Classical.not_not.mp c1)
  · intro a at_ S x T hI c1 c2
    obtain ⟨rfl, hI⟩ := hI
    refine ⟨ex_fw.refl _ T, fun i hi hx => ri_no (fun A h0 r => ?_), fun R n b hb e => (hI R n b hb e).2 c1⟩
    rw [pmany_h (by omega) (by omega) r.2.1]
    exact decide_eq_false (fun z => c2 (by rw [r.1, z]; rfl))
  · intro a at_ S x T hI c1 c2 U hU
    obtain ⟨rfl, hI⟩ := hI
    refine ⟨hU.fw, fun i hi hx => ri_yes hU (fun A h0 r => ?_), fun R n b hb e => (hI R n b hb e).2 c1⟩
    rw [pmany_h (by omega) (by omega) r.2.1, decide_eq_true]
    exact (n32_eq (by have := r.2.1; omega) (by decide)).mp (r.1.symm.trans ((Classical.not_not.mp c2).trans (show (8 : Int32) = Int32.ofNat 8 from rfl)))
  · intro a at_ S x T hI c1 r U hU
    obtain ⟨rfl, hI⟩ := hI
    obtain ⟨rfl, rfl⟩ := hU
    refine ⟨(ex_fw.refl _ T).sx (by unfold rpl; omega), fun n b A q hR => ?_⟩
    have hp := (hI (T.1 42) n b q.1.2.1 q.2.2.1).1 (Classical.not_not.mp c1)
    refine ⟨fun _ => ⟨rfl, by rw [ex_sx_eq, q.1.2.2.2.2.1]⟩, fun w hw e => absurd (e.symm.trans hp) (n32_m1 (by omega))⟩
  · intro a at_ S x T hI U hU V hV r W hW c1 c2 r2 X hX c3
    have F := FN hI hU hV
    have FX : ex_fw rpn S X := F.trans ((hW.1.mono rp183_n).trans (hX.1.mono rp183_n))
    refine ⟨FX, fun n b A q hR => ?_⟩
    obtain ⟨i, hi, hx, hp, st⟩ := hI.start hU hV q hR
    have i0 : i = 1 := (n32_eq (by omega) (by decide)).mp (hx.symm.trans (c2.trans (show (1 : Int32) = Int32.ofNat 1 from rfl)))
    subst i0
    have s1 := ((st.tp hW (by decide) rfl (by decide) rfl (by decide) (by decide)).2 c1).2
    have s2 := ((s1.tp hX (by decide) rfl (by decide) rfl (by decide) (by decide)).2 c3).2
    refine ⟨1, by decide, hp, ?_, fun j hj1 hj2 => absurd hj1 (by show ¬ 2 ≤ j; omega), s2⟩
    rw [rn_k2 s1 hX c3, rn_k2 st hW c1, ex_sx_eq, hx]
    · decide
    · decide
  · intro a at_ S x T hI U hU V hV r W hW c1 c2 r2 X hX c3
    have F := FN hI hU hV
    have FX : ex_fw rpn S X := F.trans ((hW.1.mono rp183_n).trans (hX.1.mono rp183_n))
    refine ⟨FX.mono rpn_l, fun n b A q hR => ?_⟩
    obtain ⟨i, hi, hx, hp, st⟩ := hI.start hU hV q hR
    have i0 : i = 1 := (n32_eq (by omega) (by decide)).mp (hx.symm.trans (c2.trans (show (1 : Int32) = Int32.ofNat 1 from rfl)))
    subst i0
    have s1 := ((st.tp hW (by decide) rfl (by decide) rfl (by decide) (by decide)).2 c1).2
    obtain ⟨p, p1, p2⟩ := (s1.tp hX (by decide) rfl (by decide) rfl (by decide) (by decide)).1 (Classical.not_not.mp c3)
    exact rcl_stop hp (by decide) rfl (pl_pre_s p1) p2
  · intro a at_ S x T hI U hU V hV r W hW c1 _ c2 r2 X hX c3
    have F := FN hI hU hV
    have FX : ex_fw rpn S X := F.trans ((hW.1.mono rp183_n).trans (hX.1.mono rp183_n))
    refine ⟨FX, fun n b A q hR => ?_⟩
    obtain ⟨i, hi, hx, hp, st⟩ := hI.start hU hV q hR
    have i0 : i = 2 := (n32_eq (by omega) (by decide)).mp (hx.symm.trans (c2.trans (show (2 : Int32) = Int32.ofNat 2 from rfl)))
    subst i0
    have s1 := ((st.tp hW (by decide) rfl (by decide) rfl (by decide) (by decide)).2 c1).2
    have s2 := ((s1.tp hX (by decide) rfl (by decide) rfl (by decide) (by decide)).2 c3).2
    refine ⟨2, by decide, hp, ?_, fun j hj1 hj2 => absurd hj1 (by show ¬ 2 ≤ j; omega), s2⟩
    rw [rn_k2 s1 hX c3, rn_k2 st hW c1, ex_sx_eq, hx]
    · decide
    · decide
  · intro a at_ S x T hI U hU V hV r W hW c1 _ c2 r2 X hX c3
    have F := FN hI hU hV
    have FX : ex_fw rpn S X := F.trans ((hW.1.mono rp183_n).trans (hX.1.mono rp183_n))
    refine ⟨FX.mono rpn_l, fun n b A q hR => ?_⟩
    obtain ⟨i, hi, hx, hp, st⟩ := hI.start hU hV q hR
    have i0 : i = 2 := (n32_eq (by omega) (by decide)).mp (hx.symm.trans (c2.trans (show (2 : Int32) = Int32.ofNat 2 from rfl)))
    subst i0
    have s1 := ((st.tp hW (by decide) rfl (by decide) rfl (by decide) (by decide)).2 c1).2
    obtain ⟨p, p1, p2⟩ := (s1.tp hX (by decide) rfl (by decide) rfl (by decide) (by decide)).1 (Classical.not_not.mp c3)
    exact rcl_stop hp (by decide) rfl (pl_pre_s p1) p2
  · intro a at_ S x T hI U hU V hV r W hW c1 d1 d2 d3
    have F := FN hI hU hV
    have FX : ex_fw rpn S W := F.trans (hW.1.mono rp183_n)
    refine ⟨FX, fun n b A q hR => ?_⟩
    obtain ⟨i, hi, hx, hp, st⟩ := hI.start hU hV q hR
    have i1 : ¬ (i = 1 ∨ i = 2 ∨ i = 3) := fun z => by
      rcases z with z | z | z
      · exact d1 (by rw [hx, z]; rfl)
      · exact d2 (by rw [hx, z]; rfl)
      · exact d3 (by rw [hx, z]; rfl)
    obtain ⟨l1, l2, l3⟩ := ho_nl hi
    rw [if_neg i1] at l1
    have s1 := ((st.tp hW (by rw [l1]; decide) rfl (by decide) l2 (by omega) (by omega)).2 c1).2
    refine ⟨i, hi, hp, ?_, fun j hj1 hj2 => ?_, by rw [l1]; exact s1⟩
    · rw [rn_k2 st hW c1, ex_sx_eq, hx]; decide
    · have j1 : j = 1 := by omega
      subst j1
      rw [rn_k2 st hW c1, ex_sx_ne (by decide), hV.2 2 (by decide)]
      decide
  · intro a at_ S x T hI U hU V hV r W hW c1 _ _ c2 r2 X hX c3
    have F := FN hI hU hV
    have FX : ex_fw rpn S X := F.trans ((hW.1.mono rp183_n).trans (hX.1.mono rp183_n))
    refine ⟨FX, fun n b A q hR => ?_⟩
    obtain ⟨i, hi, hx, hp, st⟩ := hI.start hU hV q hR
    have i0 : i = 3 := (n32_eq (by omega) (by decide)).mp (hx.symm.trans ((Classical.not_not.mp c2).trans (show (3 : Int32) = Int32.ofNat 3 from rfl)))
    subst i0
    have s1 := ((st.tp hW (by decide) rfl (by decide) rfl (by decide) (by decide)).2 c1).2
    have s2 := ((s1.tp hX (by decide) rfl (by decide) rfl (by decide) (by decide)).2 c3).2
    refine ⟨3, by decide, hp, ?_, fun j hj1 hj2 => absurd hj1 (by show ¬ 2 ≤ j; omega), s2⟩
    rw [rn_k2 s1 hX c3, rn_k2 st hW c1, ex_sx_eq, hx]
    · decide
    · decide
  · intro a at_ S x T hI U hU V hV r W hW c1 _ _ c2 r2 X hX c3
    have F := FN hI hU hV
    have FX : ex_fw rpn S X := F.trans ((hW.1.mono rp183_n).trans (hX.1.mono rp183_n))
    refine ⟨FX.mono rpn_l, fun n b A q hR => ?_⟩
    obtain ⟨i, hi, hx, hp, st⟩ := hI.start hU hV q hR
    have i0 : i = 3 := (n32_eq (by omega) (by decide)).mp (hx.symm.trans ((Classical.not_not.mp c2).trans (show (3 : Int32) = Int32.ofNat 3 from rfl)))
    subst i0
    have s1 := ((st.tp hW (by decide) rfl (by decide) rfl (by decide) (by decide)).2 c1).2
    obtain ⟨p, p1, p2⟩ := (s1.tp hX (by decide) rfl (by decide) rfl (by decide) (by decide)).1 (Classical.not_not.mp c3)
    exact rcl_stop hp (by decide) rfl (pl_pre_s p1) p2
  · intro a at_ S x T hI U hU V hV r W hW c1
    have F := FN hI hU hV
    refine ⟨(F.trans (hW.1.mono rp183_n)).mono rpn_l, fun n b A q hR => ?_⟩
    obtain ⟨i, hi, hx, hp, st⟩ := hI.start hU hV q hR
    obtain ⟨l1, l2, l3⟩ := ho_nl hi
    obtain ⟨p, p1, p2⟩ := (st.tp hW (by rw [l1]; split <;> decide) rfl (by decide) l2 (by omega) (by omega)).1 (Classical.not_not.mp c1)
    exact rcl_stop hp (by omega) rfl (pl_pre_s p1) p2
  · intro a at_ S T hI Y hY
    obtain ⟨FW, hI⟩ := hI
    refine ⟨(FW.mono rpn_l).trans (hY.1.w.mono (fun a k z => by unfold rpl; omega)), fun n b A q hR => ?_⟩
    obtain ⟨i, hi, hp, t0, tn, g1, g2, g3, g4, g5, g6⟩ := hI n b A q hR
    have pn : pl_f (S.1 42) n (pnl (7 + i)) (tk_e (S.1 42) n b) = none := by rw [← g5, Nat.sub_self]; rfl
    have eb : bst (S.1 42) n (7 + i) (tk_e (S.1 42) n b) = nb (S.1 42) n (tk_e (S.1 42) n b) (pnl (7 + i)) := if_neg (by omega)
    refine rcl_goes hp (by omega) rfl (pl_pre_n pn (by omega)) ?_ ?_ (fun z => ?_)
    · rw [eb]; exact g2.keep (fun k _ _ => hY.1.1 41 k (by omega)) (fun i => hY.1.1 42 i (by omega)) (by rw [hY.1.2])
    · rw [eb]; exact (g3.keep (hY.1.1 41 17 (by omega)) (hY.1.1 41 18 (by omega)) (Nat.le_refl _)).line
    · obtain ⟨e1, e2, e3⟩ := pline_0 z
      obtain ⟨h1, h2, h3⟩ := hR e2
      rw [pmany_h (by omega) (by omega) h2] at e3
      have e3 := of_decide_eq_false e3
      rw [e1, pkeep_4 (by omega)]
      have w51 : ∀ j, T.1 51 j = S.1 51 j := fun j => FW.1 51 j (by unfold rpn; omega)
      have y := hY.2 0 1 3 8 (pic A) rfl rfl rfl rfl rfl (by rw [w51]; exact h1) (by decide) (by decide) (by decide) (by decide) (by omega) (by decide)
      refine ⟨?_, ?_, fun k j hk hj => ?_⟩
      · rw [y, if_pos rfl]; rfl
      · show pic A + 1 ≤ 8
        omega
      · have hk' : k < pic A + 1 := hk
        show _ = if k = pic A then (if j = 0 then pkt (7 + i) else pll (S.1 42) n (7 + i) (tk_e (S.1 42) n b) (j - 1)) else pit A k j
        rw [y, if_neg (by omega)]
        by_cases hkk : k = pic A
        · rw [if_pos (by omega), if_pos hkk, show 1 + 3 * k + j - (1 + 3 * pic A) = j by omega]
          by_cases hj0 : j = 0
          · rw [if_pos hj0, hj0, t0]; unfold pkt; rw [if_neg (by omega), show 7 + i - 7 = i by omega]
          · rw [if_neg hj0]
            by_cases hl : j - 1 < pnl (7 + i)
            · rw [pll_lt hl, ← g4 (j - 1) hl, show 1 + (j - 1) = j by omega]
            · have := tn (j - 1) (by omega) (by omega)
              rw [show 1 + (j - 1) = j by omega] at this
              rw [this]; unfold pll; rw [if_neg hl, if_neg (by omega)]
        · rw [if_neg (by omega), if_neg hkk, w51]; exact h3 k j (by omega) hj
