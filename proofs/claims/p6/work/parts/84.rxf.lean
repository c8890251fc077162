/-! MEAL lines -/
theorem me_le : ∀ i : Fin 20, i.val ≠ 5 → i.val ≠ 10 → i.val ≠ 15 → tk_le (ex_st 12 i.val) = true := by decide +kernel
theorem me_r {T : Nat → Int32} {n b f l : Nat} {c : Int64} (hb : b ≤ n) (hm : 1 ≤ l - f) (hm8 : l - f ≤ 8) (hl : l ≤ 20) (hx : ∀ i, i < l - f → f + i ≠ 5 ∧ f + i ≠ 10 ∧ f + i ≠ 15) (hc : c = tk_pf (ex_st 12) f (l - f)) (h0 : c ≠ 0) : lg_cmp (rwd T n b) c = 0 ↔ tk_k T n b = 1 ∧ sp_b (ex_st 12) T f l (tk_s T n b) (tk_e T n b) = true :=
  rwd_eq hb hm hm8 (fun i hi => me_le ⟨f + i, by omega⟩ (hx i hi).1 (hx i hi).2.1 (hx i hi).2.2) hc h0
theorem me_w {T : Nat → Int32} {n b : Nat} (hb : b ≤ n) :
    (lg_cmp (rwd T n b) 495622124659 = 0 → pfw 2 T n b = Int32.ofNat 3 ∧ tk_k T n b = 1) ∧
    (¬ lg_cmp (rwd T n b) 495622124659 = 0 → lg_cmp (rwd T n b) 1819242347 = 0 → pfw 2 T n b = Int32.ofNat 4 ∧ tk_k T n b = 1) ∧
    (¬ lg_cmp (rwd T n b) 495622124659 = 0 → ¬ lg_cmp (rwd T n b) 1819242347 = 0 → lg_cmp (rwd T n b) 1635213689 = 0 → pfw 2 T n b = Int32.ofNat 5 ∧ tk_k T n b = 1) ∧
    (¬ lg_cmp (rwd T n b) 495622124659 = 0 → ¬ lg_cmp (rwd T n b) 1819242347 = 0 → ¬ lg_cmp (rwd T n b) 1635213689 = 0 → lg_cmp (rwd T n b) 1935767923 = 0 → pfw 2 T n b = Int32.ofNat 6 ∧ tk_k T n b = 1) ∧
    (¬ lg_cmp (rwd T n b) 495622124659 = 0 → ¬ lg_cmp (rwd T n b) 1819242347 = 0 → ¬ lg_cmp (rwd T n b) 1635213689 = 0 → ¬ lg_cmp (rwd T n b) 1935767923 = 0 → pfw 2 T n b = -1) := by
  have a1 := me_r (T := T) (f := 0) (l := 5) (c := 495622124659) hb (by decide) (by decide) (by decide) (fun i hi => by omega) (by decide +kernel) (by decide)
  have a2 := me_r (T := T) (f := 6) (l := 10) (c := 1819242347) hb (by decide) (by decide) (by decide) (fun i hi => by omega) (by decide +kernel) (by decide)
  have a3 := me_r (T := T) (f := 11) (l := 15) (c := 1635213689) hb (by decide) (by decide) (by decide) (fun i hi => by omega) (by decide +kernel) (by decide)
  have a4 := me_r (T := T) (f := 16) (l := 20) (c := 1935767923) hb (by decide) (by decide) (by decide) (fun i hi => by omega) (by decide +kernel) (by decide)
  have P : tk_k T n b = 1 → pws 8 T n b = wa 8 (fun f l => sp_b (ex_st 12) T f l (tk_s T n b) (tk_e T n b)) := fun h => by unfold pws; rw [if_pos h]
  have Q : pfw 2 T n b = if pws 8 T n b = -1 then -1 else 3 + pws 8 T n b := rfl
  refine ⟨fun h => ?_, fun h1 h => ?_, fun h1 h2 h => ?_, fun h1 h2 h3 h => ?_, fun h1 h2 h3 h4 => ?_⟩
  · obtain ⟨k, s⟩ := a1.mp h
    refine ⟨?_, k⟩
    rw [Q, P k, wa_8, if_pos s]; decide
  · obtain ⟨k, s⟩ := a2.mp h
    refine ⟨?_, k⟩
    rw [Q, P k, wa_8, if_neg (fun z => h1 (a1.mpr ⟨k, z⟩)), if_pos s]; decide
  · obtain ⟨k, s⟩ := a3.mp h
    refine ⟨?_, k⟩
    rw [Q, P k, wa_8, if_neg (fun z => h1 (a1.mpr ⟨k, z⟩)), if_neg (fun z => h2 (a2.mpr ⟨k, z⟩)), if_pos s]; decide
  · obtain ⟨k, s⟩ := a4.mp h
    refine ⟨?_, k⟩
    rw [Q, P k, wa_8, if_neg (fun z => h1 (a1.mpr ⟨k, z⟩)), if_neg (fun z => h2 (a2.mpr ⟨k, z⟩)), if_neg (fun z => h3 (a3.mpr ⟨k, z⟩)), if_pos s]; decide
  · rw [Q]
    by_cases k : tk_k T n b = 1
    · rw [P k, wa_8, if_neg (fun z => h1 (a1.mpr ⟨k, z⟩)), if_neg (fun z => h2 (a2.mpr ⟨k, z⟩)), if_neg (fun z => h3 (a3.mpr ⟨k, z⟩)), if_neg (fun z => h4 (a4.mpr ⟨k, z⟩))]; decide
    · have : pws 8 T n b = -1 := by unfold pws; rw [if_neg k]
      rw [this]; decide
theorem pmany_m {w : Nat} {A : pA} (hw : 4 ≤ w) (hw2 : w ≤ 6) (h : pic A ≤ 50) : pmany w A = decide (pic A = 50) := by
  have hm : pmo w = 50 := by
    rcases (show w = 4 ∨ w = 5 ∨ w = 6 by omega) with z | z | z <;> subst z <;> rfl
  unfold pmany pthere
  rw [if_neg (by omega), hm]
  by_cases e : pic A = 50
  · rw [decide_eq_true e, decide_eq_true ⟨by decide, by omega⟩]
  · rw [decide_eq_false e, decide_eq_false (fun z => by omega)]
theorem pmany_3 {A : pA} : pmany 3 A = false := by unfold pmany; exact decide_eq_false (fun z => absurd z.1 (by decide))
/-- which word, as the reference sees it, and its FAULT noted -/
def ri62 (w64 : Int64) (at_ : Int32) (S T : ex_S) : Prop := ex_fw rp182 S T ∧ (lg_cmp w64 495622124659 = 0 → ri 3 rqc2 w64 at_ S T) ∧ (¬ lg_cmp w64 495622124659 = 0 → lg_cmp w64 1819242347 = 0 → ri 4 rqc2 w64 at_ S T) ∧ (¬ lg_cmp w64 495622124659 = 0 → ¬ lg_cmp w64 1819242347 = 0 → lg_cmp w64 1635213689 = 0 → ri 5 rqc2 w64 at_ S T) ∧ (¬ lg_cmp w64 495622124659 = 0 → ¬ lg_cmp w64 1819242347 = 0 → ¬ lg_cmp w64 1635213689 = 0 → lg_cmp w64 1935767923 = 0 ∧ ri 6 rqc2 w64 at_ S T)
/-- SEATS: a 0 is noted -/
def rz (T : Nat → Int32) (n b : Nat) : Prop := tk_k T n b = 2 ∧ tk_v T n b = 0
def ri98 (w64 : Int64) (at_ : Int32) (S T : ex_S) : Prop := ex_fw rpn S T ∧ lg_cmp w64 495622124659 = 0 ∧ ∀ n b A, rql w64 at_ S n b A → (pf A = 0 → rqc2 S A) → rtok T n (tk_e (S.1 42) n b) ∧ (¬ rz (S.1 42) n (tk_e (S.1 42) n b) → rqf T A (tk_s (S.1 42) n (tk_e (S.1 42) n b))) ∧ (rz (S.1 42) n (tk_e (S.1 42) n b) → rqf T (pnote A true 2 (Int32.ofNat (tk_s (S.1 42) n (tk_e (S.1 42) n b)))) (tk_s (S.1 42) n (tk_e (S.1 42) n b) + 1))
/-- before the numbers of a DEED -/
def ri172 (w64 : Int64) (at_ : Int32) (S T : ex_S) : Prop := ex_fw rpn S T ∧ ¬ lg_cmp w64 495622124659 = 0 ∧ ∀ n b A, rql w64 at_ S n b A → (pf A = 0 → rqc2 S A) → ∃ w, 4 ≤ w ∧ w ≤ 6 ∧ pfw 2 (S.1 42) n b = Int32.ofNat w ∧ (w = 4 ↔ lg_cmp w64 1819242347 = 0) ∧ (w = 6 ↔ lg_cmp w64 1935767923 = 0) ∧ T.1 52 0 = Int32.ofNat (w - 4) ∧ (∀ j, 1 ≤ j → j < 4 → T.1 52 j = -1) ∧ rn T (S.1 42) n w (tk_e (S.1 42) n b) 0 1 (pnote A (pmany w A) 3 (Int32.ofNat (tk_s (S.1 42) n b)))
def rpm (a k : Nat) : Prop := (a = 41 ∧ 10 ≤ k ∧ k ≤ 22 ∧ k ≠ 11) ∨ a = 52
theorem rpn_m : ∀ a k, rpn a k → rpm a k := fun a k z => by unfold rpn at z; unfold rpm; omega
theorem rpm_l : ∀ a k, rpm a k → rpl a k := fun a k z => by unfold rpm at z; unfold rpl; omega
/-- behind the numbers of a DEED -/
def ri226 (w64 : Int64) (at_ : Int32) (S T : ex_S) : Prop := ex_fw rpm S T ∧ ∀ n b A, rql w64 at_ S n b A → (pf A = 0 → rqc2 S A) → ∃ w, 4 ≤ w ∧ w ≤ 6 ∧ pfw 2 (S.1 42) n b = Int32.ofNat w ∧ T.1 52 0 = Int32.ofNat (w - 4) ∧ (∀ j, pnl w ≤ j → j < 2 → T.1 52 (1 + j) = -1) ∧ rn T (S.1 42) n w (tk_e (S.1 42) n b) (pnl w) 1 (pnote A (pmany w A) 3 (Int32.ofNat (tk_s (S.1 42) n b))) ∧ T.1 41 21 = if w = 4 then pmx (pmx (S.1 41 21) (pll (S.1 42) n w (tk_e (S.1 42) n b) 0)) (pll (S.1 42) n w (tk_e (S.1 42) n b) 1) else pmx (S.1 41 21) (pll (S.1 42) n w (tk_e (S.1 42) n b) 0)
theorem rn.f21 {S : ex_S} {T : Nat → Int32} {n w b j off : Nat} {A : pA} {x : Int32} (h : rn S T n w b j off A) : rn (ex_sx S 41 21 x) T n w b j off A := by
  obtain ⟨e, t, r, rd, pl, gd⟩ := h
  refine ⟨?_, t.keep (fun k _ _ => ex_sx_ne (by omega)) (fun i => ex_sx_ne (by omega)) rfl, r.keep (ex_sx_ne (by omega)) (ex_sx_ne (by omega)) (Nat.le_refl _), fun i hi => by rw [ex_sx_ne (by omega)]; exact rd i hi, pl, fun z => gd (by rw [ex_sx_ne (by omega)] at z; exact z)⟩
  funext i; rw [ex_sx_ne (by omega), e]
theorem me_nl {w : Nat} (h1 : 4 ≤ w) (h2 : w ≤ 6) : pnl w = (if w = 5 then 1 else 2) ∧ pgr w 0 = 5 ∧ pgr w 1 = (if w = 4 then 5 else if w = 6 then 9 else 0) := by
  rcases (show w = 4 ∨ w = 5 ∨ w = 6 by omega) with z | z | z <;> subst z <;> exact ⟨rfl, rfl, rfl⟩
theorem rqc2.keep {S S' : ex_S} {A : pA} (h : rqc2 S A) (e : ∀ j, S'.1 51 j = S.1 51 j) (e2 : S'.1 41 21 = S.1 41 21) : rqc2 S' A := by
  obtain ⟨h1, h2, h3, h4, h5⟩ := h
  exact ⟨by rw [e]; exact h1, by rw [e]; exact h2, h3, by rw [e2]; exact h4, fun k j hk hj => by rw [e]; exact h5 k j hk hj⟩
theorem ec189 : es189 (rcl 2 rqc2) := by
  have NM : ∀ {w : Nat} {w64 : Int64} {at_ : Int32} {S : ex_S}, 4 ≤ w → w ≤ 6 → ¬ S.1 51 1 = 50 → ri w rqc2 w64 at_ S S := by
    intro w w64 at_ S h1 h2 c
    refine ri_no (fun A h0 r => ?_)
    rw [pmany_m h1 h2 r.2.2.1]
    exact decide_eq_false (fun z => c (by rw [r.2.1, z]; rfl))
  have YM : ∀ {w : Nat} {w64 : Int64} {at_ : Int32} {S U : ex_S}, 4 ≤ w → w ≤ 6 → ¬ ¬ S.1 51 1 = 50 → rc182 3 at_ S U → ri w rqc2 w64 at_ S U := by
    intro w w64 at_ S U h1 h2 c hU
    refine ri_yes hU (fun A h0 r => ?_)
    rw [pmany_m h1 h2 r.2.2.1, decide_eq_true]
    exact (n32_eq (by have := r.2.2.1; omega) (by decide)).mp (r.2.1.symm.trans ((Classical.not_not.mp c).trans (show (50 : Int32) = Int32.ofNat 50 from rfl)))
  refine ev189 (I62 := ri62) (I98 := ri98) (I172 := ri172) (I226 := ri226) ec179 ec182 ec183 ec184 ec185 ec190 ec191 ?_ ?_ ?_ ?_ ?_ ?_ ?_ ?_ ?_ ?_ ?_ ?_ ?_ ?_ ?_ ?_ ?_ ?_ ?_ ?_ ?_ ?_ ?_ ?_ ?_
  · intro a at_ S c
    exact ⟨ex_fw.refl _ S, fun _ => ri_no (fun A h0 r => pmany_3), fun z => absurd c z, fun z => absurd c z, fun z => absurd c z⟩
  · intro a at_ S c1 c2 c
    exact ⟨ex_fw.refl _ S, fun z => absurd z c1, fun _ _ => NM (by decide) (by decide) c, fun _ z => absurd c2 z, fun _ z => absurd c2 z⟩
  · intro a at_ S c1 c2 c U hU
    exact ⟨hU.fw, fun z => absurd z c1, fun _ _ => YM (by decide) (by decide) c hU, fun _ z => absurd c2 z, fun _ z => absurd c2 z⟩
  · intro a at_ S c1 c2 c3 c
    exact ⟨ex_fw.refl _ S, fun z => absurd z c1, fun _ z => absurd z c2, fun _ _ _ => NM (by decide) (by decide) c, fun _ _ z => absurd c3 z⟩
  · intro a at_ S c1 c2 c3 c U hU
    exact ⟨hU.fw, fun z => absurd z c1, fun _ z => absurd z c2, fun _ _ _ => YM (by decide) (by decide) c hU, fun _ _ z => absurd c3 z⟩
  · intro a at_ S c1 c2 c3 c4 c
    exact ⟨ex_fw.refl _ S, fun z => absurd z c1, fun _ z => absurd z c2, fun _ _ z => absurd z c3, fun _ _ _ => ⟨c4, NM (by decide) (by decide) c⟩⟩
  · intro a at_ S c1 c2 c3 c4 c U hU
    exact ⟨hU.fw, fun z => absurd z c1, fun _ z => absurd z c2, fun _ _ z => absurd z c3, fun _ _ _ => ⟨c4, YM (by decide) (by decide) c hU⟩⟩
  · intro a at_ S c1 c2 c3 c4 r U hU
    obtain ⟨rfl, rfl⟩ := hU
    refine ⟨(ex_fw.refl _ S).sx (by unfold rpl; omega), fun n b A q hR => ?_⟩
    rw [q.2.2.1] at c1 c2 c3 c4
    have hp := (me_w (T := S.1 42) q.1.2.1).2.2.2.2 c1 c2 c3 c4
    exact ⟨fun _ => ⟨rfl, by rw [ex_sx_eq, q.1.2.2.2.2.1]⟩, fun w hw e => absurd (e.symm.trans hp) (n32_m1 (by omega))⟩
  -- the sort of a DEED
  · intro a at_ S T hI U hU c1 V hV c2 c3
    obtain ⟨F0, _, _, _, hI⟩ := hI
    obtain ⟨c4, hi⟩ := hI c1 c2 c3
    refine ⟨(((F0.mono rp182_n).trans (hU.1.mono rp179_n)).trans (hV.1.w.mono (fun a k z => by unfold rpn; omega))).sx (by unfold rpn; omega), c1, fun n b A q hR => ?_⟩
    have q3 := q.2.2.1
    obtain ⟨hw, hk⟩ := (me_w (T := S.1 42) q.1.2.1).2.2.2.1 (q3 ▸ c1) (q3 ▸ c2) (q3 ▸ c3) (q3 ▸ c4)
    have st := hi.start (off := 1) hU q hR (by omega)
    exact ⟨6, by decide, by decide, hw, ⟨fun z => absurd z (by decide), fun z => absurd z c2⟩, ⟨fun _ => c4, fun _ => rfl⟩, ex_sx_eq, fun j h1 h4 => by rw [ex_sx_ne (by omega)]; exact hV.2 j h4, st.zero (hV.1.sx rfl)⟩
  · intro a at_ S T hI U hU c1 V hV c2 c3
    obtain ⟨F0, _, _, hI, _⟩ := hI
    have c3 := Classical.not_not.mp c3
    have hi := hI c1 c2 c3
    refine ⟨(((F0.mono rp182_n).trans (hU.1.mono rp179_n)).trans (hV.1.w.mono (fun a k z => by unfold rpn; omega))).sx (by unfold rpn; omega), c1, fun n b A q hR => ?_⟩
    have q3 := q.2.2.1
    obtain ⟨hw, hk⟩ := (me_w (T := S.1 42) q.1.2.1).2.2.1 (q3 ▸ c1) (q3 ▸ c2) (q3 ▸ c3)
    have st := hi.start (off := 1) hU q hR (by omega)
    exact ⟨5, by decide, by decide, hw, ⟨fun z => absurd z (by decide), fun z => absurd z c2⟩, ⟨fun z => absurd z (by decide), fun z => absurd ((lg_0.mp c3).symm.trans (lg_0.mp z)) (by decide)⟩, ex_sx_eq, fun j h1 h4 => by rw [ex_sx_ne (by omega)]; exact hV.2 j h4, st.zero (hV.1.sx rfl)⟩
  · intro a at_ S T hI U hU c1 V hV c2
    obtain ⟨F0, _, hI, _, _⟩ := hI
    have c2 := Classical.not_not.mp c2
    have hi := hI c1 c2
    refine ⟨(((F0.mono rp182_n).trans (hU.1.mono rp179_n)).trans (hV.1.w.mono (fun a k z => by unfold rpn; omega))).sx (by unfold rpn; omega), c1, fun n b A q hR => ?_⟩
    have q3 := q.2.2.1
    obtain ⟨hw, hk⟩ := (me_w (T := S.1 42) q.1.2.1).2.1 (q3 ▸ c1) (q3 ▸ c2)
    have st := hi.start (off := 1) hU q hR (by omega)
    exact ⟨4, by decide, by decide, hw, ⟨fun _ => c2, fun _ => rfl⟩, ⟨fun z => absurd z (by decide), fun z => absurd ((lg_0.mp c2).symm.trans (lg_0.mp z)) (by decide)⟩, ex_sx_eq, fun j h1 h4 => by rw [ex_sx_ne (by omega)]; exact hV.2 j h4, st.zero (hV.1.sx rfl)⟩
  -- seats
  · intro a at_ S T hI U hU c1 c2
    obtain ⟨F0, hI, _⟩ := hI
    have c1 := Classical.not_not.mp c1
    have hi := hI c1
    refine ⟨(F0.mono rp182_n).trans (hU.1.mono rp179_n), c1, fun n b A q hR => ?_⟩
    have q3 := q.2.2.1
    obtain ⟨hw, hk⟩ := (me_w (T := S.1 42) q.1.2.1).1 (q3 ▸ c1)
    obtain ⟨g1, g2, g3, _⟩ := hi.start (off := 0) hU q hR (by omega)
    rw [pmany_3, pnote_f] at g3
    have g2' : rtok U n (tk_e (S.1 42) n b) := g2
    refine ⟨g2', fun _ => g3, fun z => absurd ((g2'.k (k := 2) (by decide)).mpr (by rw [g1]; exact z.1)) c2⟩
  · intro a at_ S T hI U hU c1 c2 c3
    obtain ⟨F0, hI, _⟩ := hI
    have c1 := Classical.not_not.mp c1
    have hi := hI c1
    refine ⟨(F0.mono rp182_n).trans (hU.1.mono rp179_n), c1, fun n b A q hR => ?_⟩
    have q3 := q.2.2.1
    obtain ⟨hw, hk⟩ := (me_w (T := S.1 42) q.1.2.1).1 (q3 ▸ c1)
    obtain ⟨g1, g2, g3, _⟩ := hi.start (off := 0) hU q hR (by omega)
    rw [pmany_3, pnote_f] at g3
    have g2' : rtok U n (tk_e (S.1 42) n b) := g2
    refine ⟨g2', fun _ => g3, fun z => absurd ?_ c3⟩
    have := g2'.2.2.2.2.2.2.2.1 (by rw [g1]; exact z.1)
    rw [g1, z.2] at this; exact this
  · intro a at_ S T hI U hU c1 c2 c3 V hV
    obtain ⟨F0, hI, _⟩ := hI
    have c1 := Classical.not_not.mp c1
    have hi := hI c1
    refine ⟨((F0.mono rp182_n).trans (hU.1.mono rp179_n)).trans (hV.fw.mono rp182_n), c1, fun n b A q hR => ?_⟩
    have q3 := q.2.2.1
    obtain ⟨hw, hk⟩ := (me_w (T := S.1 42) q.1.2.1).1 (q3 ▸ c1)
    obtain ⟨g1, g2, g3, _⟩ := hi.start (off := 0) hU q hR (by omega)
    rw [pmany_3, pnote_f] at g3
    have g2' : rtok U n (tk_e (S.1 42) n b) := g2
    have k2 := (g2'.k (k := 2) (by decide)).mp (Classical.not_not.mp c2)
    rw [g1] at k2
    have v0 := g2'.2.2.2.2.2.2.2.1 (by rw [g1]; exact k2)
    rw [g1] at v0
    have z : rz (S.1 42) n (tk_e (S.1 42) n b) := ⟨k2, v0.symm.trans (Classical.not_not.mp c3)⟩
    refine ⟨g2'.keep (fun k h1 h2 => hV.fw.1 41 k (by unfold rp182; omega)) (fun i => hV.fw.1 42 i (by unfold rp182; omega)) ?_, fun y => absurd z y, fun _ => ?_⟩
    · have hV' : V = _ := hV
      rw [hV']; split <;> rfl
    · have e12 := g2'.2.2.2.2.1
      rw [g1] at e12
      rw [e12] at hV
      have hs := tk_s_le (T := S.1 42) g2'.2.1
      have hn := g2'.2.2.1
      exact hV.note g3 (by omega) (by decide)
  -- numbers of a DEED
  · intro a at_ S T hI r U hU c1 c2 c3
    obtain ⟨F0, d1, hI⟩ := hI
    obtain ⟨X, hX, rfl⟩ := hU
    refine ⟨((F0.trans (hX.1.mono rp183_n)).mono rpn_m).sx (by unfold rpm; omega), fun n b A q hR => ?_⟩
    obtain ⟨w, w1, w2, hw, e4, e6, t0, tn, st⟩ := hI n b A q hR
    have w5 : w = 5 := by
      have n4 : ¬ w = 4 := fun z => c2 (e4.mp z)
      have n6 : ¬ w = 6 := fun z => c3 (e6.mp z)
      omega
    subst w5
    have s1 := ((st.tp hX (by decide) rfl (by decide) rfl (by decide) (by decide)).2 c1).2
    refine ⟨5, by decide, by decide, hw, ?_, fun j h1 h2 => ?_, s1.f21, ?_⟩
    · rw [ex_sx_ne (by omega), rn_k2 st hX c1 (by decide)]; exact t0
    · have h1' : 1 ≤ j := h1
      rw [ex_sx_ne (by omega), rn_k2 st hX c1 (by show ¬ 1 + j = 1; omega)]; exact tn (1 + j) (by omega) (by omega)
    · rw [ex_sx_eq, if_neg c1, if_neg (by decide), pll_lt (by decide), (hX.1.mono rp183_n).1 41 21 (by unfold rpn; omega), F0.1 41 21 (by unfold rpn; omega)]
      exact congrArg _ (s1.2.2.2.1 0 (by decide))
  · intro a at_ S T hI r U hU c1 c2 c3 r2 V hV c4
    obtain ⟨F0, d1, hI⟩ := hI
    obtain ⟨X, hX, rfl⟩ := hU
    refine ⟨(((F0.trans (hX.1.mono rp183_n)).mono rpn_m).sx (by unfold rpm; omega)).trans ((hV.1.mono rp183_n).mono rpn_m), fun n b A q hR => ?_⟩
    obtain ⟨w, w1, w2, hw, e4, e6, t0, tn, st⟩ := hI n b A q hR
    have w6 : w = 6 := e6.mpr (Classical.not_not.mp c3)
    subst w6
    have s1 := ((st.tp hX (by decide) rfl (by decide) rfl (by decide) (by decide)).2 c1).2
    have s1' := s1.f21 (x := (if r = 0 then X.1 41 21 else pmx (X.1 41 21) (X.1 52 (Int32.toNatClampNeg 1))))
    have s2 := ((s1'.tp hV (by decide) rfl (by decide) rfl (by decide) (by decide)).2 c4).2
    refine ⟨6, by decide, by decide, hw, ?_, fun j h1 h2 => absurd h1 (by show ¬ 2 ≤ j; omega), s2, ?_⟩
    · rw [rn_k2 s1' hV c4 (by decide), ex_sx_ne (by omega), rn_k2 st hX c1 (by decide)]; exact t0
    · rw [(hV.1.mono rp183_n).1 41 21 (by unfold rpn; omega), ex_sx_eq, if_neg c1, if_neg (by decide), pll_lt (by decide), (hX.1.mono rp183_n).1 41 21 (by unfold rpn; omega), F0.1 41 21 (by unfold rpn; omega)]
      exact congrArg _ (s1.2.2.2.1 0 (by decide))
  · intro a at_ S T hI r U hU c1 c2 c3 r2 V hV c4
    obtain ⟨F0, d1, hI⟩ := hI
    obtain ⟨X, hX, rfl⟩ := hU
    refine ⟨((((F0.trans (hX.1.mono rp183_n)).mono rpn_m).sx (by unfold rpm; omega)).trans ((hV.1.mono rp183_n).mono rpn_m)).mono rpm_l, fun n b A q hR => ?_⟩
    obtain ⟨w, w1, w2, hw, e4, e6, t0, tn, st⟩ := hI n b A q hR
    have w6 : w = 6 := e6.mpr (Classical.not_not.mp c3)
    subst w6
    have s1 := ((st.tp hX (by decide) rfl (by decide) rfl (by decide) (by decide)).2 c1).2
    have s1' := s1.f21 (x := (if r = 0 then X.1 41 21 else pmx (X.1 41 21) (X.1 52 (Int32.toNatClampNeg 1))))
    obtain ⟨p, p1, p2⟩ := (s1'.tp hV (by decide) rfl (by decide) rfl (by decide) (by decide)).1 (Classical.not_not.mp c4)
    exact rcl_stop hw (by decide) rfl (pl_pre_s p1) p2
  · intro a at_ S T hI r U hU c1 c2 r2 V hV c4
    obtain ⟨F0, d1, hI⟩ := hI
    obtain ⟨X, hX, rfl⟩ := hU
    obtain ⟨Y, hY, rfl⟩ := hV
    refine ⟨(((((F0.trans (hX.1.mono rp183_n)).mono rpn_m).sx (by unfold rpm; omega)).trans ((hY.1.mono rp183_n).mono rpn_m)).sx (by unfold rpm; omega)).mono rpm_l, fun n b A q hR => ?_⟩
    obtain ⟨w, w1, w2, hw, e4, e6, t0, tn, st⟩ := hI n b A q hR
    have w4 : w = 4 := e4.mpr (Classical.not_not.mp c2)
    subst w4
    have s1 := ((st.tp hX (by decide) rfl (by decide) rfl (by decide) (by decide)).2 c1).2
    have s1' := s1.f21 (x := (if r = 0 then X.1 41 21 else pmx (X.1 41 21) (X.1 52 (Int32.toNatClampNeg 1))))
    obtain ⟨p, p1, p2⟩ := (s1'.ts hY (by decide) rfl (by decide) rfl (Or.inr rfl) rfl).1 c4
    exact rcl_stop hw (by decide) rfl (pl_pre_s p1) (by rw [ex_sx_ne (by omega)]; exact p2)
  · intro a at_ S T hI r U hU c1 c2 r2 V hV c4 c5
    obtain ⟨F0, d1, hI⟩ := hI
    obtain ⟨X, hX, rfl⟩ := hU
    obtain ⟨Y, hY, rfl⟩ := hV
    refine ⟨((((F0.trans (hX.1.mono rp183_n)).mono rpn_m).sx (by unfold rpm; omega)).trans ((hY.1.mono rp183_n).mono rpn_m)).sx (by unfold rpm; omega), fun n b A q hR => ?_⟩
    obtain ⟨w, w1, w2, hw, e4, e6, t0, tn, st⟩ := hI n b A q hR
    have w4 : w = 4 := e4.mpr (Classical.not_not.mp c2)
    subst w4
    have s1 := ((st.tp hX (by decide) rfl (by decide) rfl (by decide) (by decide)).2 c1).2
    have s1' := s1.f21 (x := (if r = 0 then X.1 41 21 else pmx (X.1 41 21) (X.1 52 (Int32.toNatClampNeg 1))))
    have s2 := ((s1'.ts hY (by decide) rfl (by decide) rfl (Or.inr rfl) rfl).2 c4).2
    refine ⟨4, by decide, by decide, hw, ?_, fun j h1 h2 => absurd h1 (by show ¬ 2 ≤ j; omega), s2.f21, ?_⟩
    · rw [ex_sx_ne (by omega), rn_k2 s1' hY c4 (by decide), ex_sx_ne (by omega), rn_k2 st hX c1 (by decide)]; exact t0
    · rw [ex_sx_eq, if_neg c4, if_pos rfl, pll_lt (by decide), pll_lt (by decide), (hY.1.mono rp183_n).1 41 21 (by unfold rpn; omega), ex_sx_eq, if_neg c1, (hX.1.mono rp183_n).1 41 21 (by unfold rpn; omega), F0.1 41 21 (by unfold rpn; omega)]
      have h0 : X.1 52 (Int32.toNatClampNeg 1) = tk_v (S.1 42) n (nb (S.1 42) n (tk_e (S.1 42) n b) 0) := s1.2.2.2.1 0 (by decide)
      have h1 : Y.1 52 (Int32.toNatClampNeg 2) = tk_v (S.1 42) n (nb (S.1 42) n (tk_e (S.1 42) n b) 1) := s2.2.2.2.1 1 (by decide)
      rw [h0, h1]
  · intro a at_ S T hI r U hU c1 c2 r2 V hV c4 c5 r3 W hW c6
    have x := (lg_0.mp (Classical.not_not.mp c2)).symm.trans (lg_0.mp (Classical.not_not.mp c5))
    exact absurd x (by decide)
  · intro a at_ S T hI r U hU c1 c2 r2 V hV c4 c5 r3 W hW c6
    have x := (lg_0.mp (Classical.not_not.mp c2)).symm.trans (lg_0.mp (Classical.not_not.mp c5))
    exact absurd x (by decide)
  · intro a at_ S T hI r U hU c1
    obtain ⟨F0, d1, hI⟩ := hI
    obtain ⟨X, hX, rfl⟩ := hU
    refine ⟨(((F0.trans (hX.1.mono rp183_n)).mono rpn_m).sx (by unfold rpm; omega)).mono rpm_l, fun n b A q hR => ?_⟩
    obtain ⟨w, w1, w2, hw, e4, e6, t0, tn, st⟩ := hI n b A q hR
    obtain ⟨l1, l2, l3⟩ := me_nl w1 w2
    obtain ⟨p, p1, p2⟩ := (st.tp hX (by rw [l1]; split <;> decide) rfl (by decide) l2 (by omega) (by omega)).1 (Classical.not_not.mp c1)
    exact rcl_stop hw (by omega) rfl (pl_pre_s p1) (by rw [ex_sx_ne (by omega)]; exact p2)
  -- seats: the number
  · intro a at_ S T hI r U hU c1
    obtain ⟨F0, d1, hI⟩ := hI
    refine ⟨((F0.trans (hU.1.mono rp183_n)).mono rpn_l).sx (by unfold rpl; omega), fun n b A q hR => ?_⟩
    obtain ⟨t, g1, g2⟩ := hI n b A q hR
    have q3 := q.2.2.1
    obtain ⟨hw, hk⟩ := (me_w (T := S.1 42) q.1.2.1).1 (q3 ▸ d1)
    have e42 := fw42 F0
    obtain ⟨h1, h2⟩ := hU.2 n _ t
    rw [e42] at h1 h2
    have nk : tk_k (S.1 42) n (tk_e (S.1 42) n b) ≠ 2 := fun z => absurd ((h2 z).1.symm.trans c1) (by decide)
    refine rcl_stop hw (by decide) c1 (pl_pre_s (p := tk_s (S.1 42) n (tk_e (S.1 42) n b)) ?_) (by rw [ex_sx_ne (by omega)]; exact (h1 nk).2)
    exact if_neg nk
  · intro a at_ S T hI r U hU c1
    obtain ⟨F0, d1, hI⟩ := hI
    have FU : ex_fw rpn S U := F0.trans (hU.1.mono rp183_n)
    refine ⟨(FU.mono rpn_l).sx (by unfold rpl; omega), fun n b A q hR => ?_⟩
    obtain ⟨t, g1, g2⟩ := hI n b A q hR
    have q3 := q.2.2.1
    obtain ⟨hw, hk⟩ := (me_w (T := S.1 42) q.1.2.1).1 (q3 ▸ d1)
    have e42 := fw42 F0
    obtain ⟨h1, h2⟩ := hU.2 n _ t
    rw [e42] at h1 h2
    have k2 : tk_k (S.1 42) n (tk_e (S.1 42) n b) = 2 := by
      apply Classical.byContradiction
      intro z; exact c1 (h1 z).1
    obtain ⟨v1, t2, rd, _, hf, hn⟩ := h2 k2
    have pn : pl_f (S.1 42) n (pnl 3) (tk_e (S.1 42) n b) = none := if_pos k2
    have hv := tk_v_b k2
    have l0 : pll (S.1 42) n 3 (tk_e (S.1 42) n b) 0 = tk_v (S.1 42) n (tk_e (S.1 42) n b) := pll_lt (by decide)
    have ep : pan (S.1 42) n 3 (tk_e (S.1 42) n b) (pnote A (pmany 3 A) 3 (Int32.ofNat (tk_s (S.1 42) n b))) (pnl 3) = pnote A (pbad 3 0 (pll (S.1 42) n 3 (tk_e (S.1 42) n b))) 2 (Int32.ofNat (tk_s (S.1 42) n (tk_e (S.1 42) n b))) := by
      rw [pmany_3, pnote_f]; rfl
    have eb : pbad 3 0 (pll (S.1 42) n 3 (tk_e (S.1 42) n b)) = (decide (6 < tk_v (S.1 42) n (tk_e (S.1 42) n b)) || decide (tk_v (S.1 42) n (tk_e (S.1 42) n b) < 1)) := by
      unfold pbad
      rw [l0, show pgr 3 0 = 6 from rfl]
      simp
    have rq : rqf U (pan (S.1 42) n 3 (tk_e (S.1 42) n b) (pnote A (pmany 3 A) 3 (Int32.ofNat (tk_s (S.1 42) n b))) (pnl 3)) (tk_s (S.1 42) n (tk_e (S.1 42) n b) + 1) := by
      rw [ep, eb]
      by_cases z : rz (S.1 42) n (tk_e (S.1 42) n b)
      · have rb : rbad 6 (-1) (tk_v (S.1 42) n (tk_e (S.1 42) n b)) = false := by rw [z.2]; decide
        obtain ⟨_, f1, f2⟩ := hf rb
        rw [z.2, show (decide ((6 : Int32) < 0) || decide ((0 : Int32) < 1)) = true by decide]
        exact (g2 z).keep f1 f2 (Nat.le_refl _)
      · have := hn A (g1 z)
        have nz : ¬ tk_v (S.1 42) n (tk_e (S.1 42) n b) = 0 := fun y => z ⟨k2, y⟩
        have n1 : ¬ tk_v (S.1 42) n (tk_e (S.1 42) n b) < 1 := fun y => by
          have y' := Int32.lt_iff_toInt_lt.mp y
          have e1 : (1 : Int32).toInt = 1 := rfl
          exact nz (Int32.toInt_inj.mp (show (tk_v (S.1 42) n (tk_e (S.1 42) n b)).toInt = (0 : Int32).toInt by
            have e0 : (0 : Int32).toInt = 0 := rfl
            omega))
        have nm : ¬ tk_v (S.1 42) n (tk_e (S.1 42) n b) = -1 := fun y => by
          have e1 : (-1 : Int32).toInt = -1 := rfl
          rw [y] at hv; omega
        rw [decide_eq_false n1, Bool.or_false]
        have rb : rbad 6 (-1) (tk_v (S.1 42) n (tk_e (S.1 42) n b)) = decide (6 < tk_v (S.1 42) n (tk_e (S.1 42) n b)) := by
          unfold rbad
          by_cases y : 6 < tk_v (S.1 42) n (tk_e (S.1 42) n b)
          · rw [decide_eq_true y, decide_eq_true (Or.inl y)]
          · rw [decide_eq_false y, decide_eq_false (fun x => x.elim y nm)]
        rw [rb] at this; exact this
    have gt := tk_e_gt (T := S.1 42) (n := n) (b := tk_e (S.1 42) n b) (by omega)
    have gs := tk_s_ge (T := S.1 42) (n := n) (b := tk_e (S.1 42) n (tk_e (S.1 42) n b))
    have ebs : bst (S.1 42) n 3 (tk_e (S.1 42) n b) = tk_e (S.1 42) n (tk_e (S.1 42) n b) := rfl
    refine rcl_goes hw (by decide) v1 (pl_pre_n pn (by decide)) ?_ ?_ (fun z => ?_)
    · rw [ebs]; exact t2.keep (fun k _ _ => ex_sx_ne (by omega)) (fun i => ex_sx_ne (by omega)) rfl
    · rw [ebs]; exact (rq.keep (ex_sx_ne (by omega)) (ex_sx_ne (by omega)) (by omega)).line
    · obtain ⟨e1, e2, e3⟩ := pline_0 z
      obtain ⟨h1, h2, h3, h4, h5⟩ := hR e2
      rw [e1, pkeep_3]
      have w51 : ∀ j, U.1 51 j = S.1 51 j := fun j => FU.1 51 j (by unfold rpn; omega)
      refine ⟨?_, ?_, h3, ?_, fun k j hk hj => ?_⟩
      · rw [ex_sx_eq, rd 0, if_pos (show (0 : Nat) = Int32.toNatClampNeg 0 from rfl)]; exact l0.symm
      · rw [ex_sx_ne (by omega), w51]; exact h2
      · rw [ex_sx_ne (by omega), FU.1 41 21 (by unfold rpn; omega)]; exact h4
      · rw [ex_sx_ne (by omega), w51]; exact h5 k j hk hj
  · intro a at_ S T hI Y hY
    obtain ⟨FW, hI⟩ := hI
    refine ⟨(FW.mono rpm_l).trans (hY.1.w.mono (fun a k z => by unfold rpl; omega)), fun n b A q hR => ?_⟩
    obtain ⟨w, w1, w2, hp, t0, tn, ⟨g1, g2, g3, g4, g5, g6⟩, t21⟩ := hI n b A q hR
    have pn : pl_f (S.1 42) n (pnl w) (tk_e (S.1 42) n b) = none := by rw [← g5, Nat.sub_self]; rfl
    have eb : bst (S.1 42) n w (tk_e (S.1 42) n b) = nb (S.1 42) n (tk_e (S.1 42) n b) (pnl w) := if_neg (by omega)
    refine rcl_goes hp (by omega) rfl (pl_pre_n pn (by omega)) ?_ ?_ (fun z => ?_)
    · rw [eb]; exact g2.keep (fun k _ _ => hY.1.1 41 k (by omega)) (fun i => hY.1.1 42 i (by omega)) (by rw [hY.1.2])
    · rw [eb]; exact (g3.keep (hY.1.1 41 17 (by omega)) (hY.1.1 41 18 (by omega)) (Nat.le_refl _)).line
    · obtain ⟨e1, e2, e3⟩ := pline_0 z
      obtain ⟨h1, h2, h3, h4, h5⟩ := hR e2
      rw [pmany_m w1 w2 h3] at e3
      have e3 := of_decide_eq_false e3
      rw [e1, pkeep_4 w1]
      have w51 : ∀ j, T.1 51 j = S.1 51 j := fun j => FW.1 51 j (by unfold rpm; omega)
      have y := hY.2 1 2 3 50 (pic A) rfl rfl rfl rfl rfl (by rw [w51]; exact h2) (by decide) (by decide) (by decide) (by decide) (by omega) (by decide)
      refine ⟨?_, ?_, ?_, ?_, fun k j hk hj => ?_⟩
      · rw [y, if_neg (by decide), if_neg (by omega), w51]; exact h1
      · rw [y, if_pos rfl]; rfl
      · show pic A + 1 ≤ 50
        omega
      · rw [hY.1.1 41 21 (by omega), t21, h4]
        show _ = pkh w (pll (S.1 42) n w (tk_e (S.1 42) n b)) A
        unfold pkh; rw [if_pos (show w < 7 by omega)]
      · have hk' : k < pic A + 1 := hk
        show _ = if k = pic A then (if j = 0 then pkt w else pll (S.1 42) n w (tk_e (S.1 42) n b) (j - 1)) else pit A k j
        rw [y, if_neg (by omega)]
        by_cases hkk : k = pic A
        · rw [if_pos (by omega), if_pos hkk, show 2 + 3 * k + j - (2 + 3 * pic A) = j by omega]
          by_cases hj0 : j = 0
          · rw [if_pos hj0, hj0, t0]; unfold pkt; rw [if_pos (by omega)]
          · rw [if_neg hj0]
            by_cases hl : j - 1 < pnl w
            · rw [pll_lt hl, ← g4 (j - 1) hl, show 1 + (j - 1) = j by omega]
            · have := tn (j - 1) (by omega) (by omega)
              rw [show 1 + (j - 1) = j by omega] at this
              rw [this]; unfold pll; rw [if_neg hl, if_neg (by omega)]
        · rw [if_neg (by omega), if_neg hkk, w51]; exact h5 k j (by omega) hj
