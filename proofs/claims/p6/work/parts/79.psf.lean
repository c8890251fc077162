/-- forget -/
def pP11 (a k : Nat) : Prop := (a = 30 ∧ 1 ≤ k) ∨ (a = 25 ∧ 1 ≤ k) ∨ a = 26 ∨ a = 27 ∨ a = 28 ∨ a = 29
def cc12 (S S' : ex_S) : Prop := ex_fx pP11 S S' ∧ (∀ k, S'.1 30 k = S.1 30 k) ∧ (S.2.2.2.1 28 = 10 → ra S' pA0 ∧ rr S' pA0)
theorem ec12 : es12 cc12 := by
  refine ev12 ec13 ?_
  intro S U hU
  have F1 : ex_fx pP11 S (ex_sx (ex_sx (ex_sx (ex_sx S 25 1 0) 25 2 (-1)) 25 4 0) 25 6 0) := ((((ex_fx.refl _ S).sx (by unfold pP11; omega)).sx (by unfold pP11; omega)).sx (by unfold pP11; omega)).sx (by unfold pP11; omega)
  have F2 : ex_fx pP11 S (ex_sx (ex_sx U 25 8 4) 25 9 (-1)) := ((F1.trans (hU.1.mono (fun a k z => by unfold pP11; omega))).sx (by unfold pP11; omega)).sx (by unfold pP11; omega)
  refine ⟨F2, fun k => ?_, fun hl => ?_⟩
  · rw [ex_sx_ne (by omega), ex_sx_ne (by omega), hU.1.1 30 k (by omega), ex_sx_ne (by omega), ex_sx_ne (by omega), ex_sx_ne (by omega), ex_sx_ne (by omega)]
  · have u := hU.2 10 hl (by decide)
    have g : ∀ k, k ≠ 8 → k ≠ 9 → (ex_sx (ex_sx U 25 8 4) 25 9 (-1)).1 25 k = (ex_sx (ex_sx (ex_sx (ex_sx S 25 1 0) 25 2 (-1)) 25 4 0) 25 6 0).1 25 k := fun k h8 h9 => by
      rw [ex_sx_ne (by omega), ex_sx_ne (by omega), hU.1.1 25 k (by omega)]
    have g1 : (ex_sx (ex_sx U 25 8 4) 25 9 (-1)).1 25 1 = 0 := (g 1 (by decide) (by decide)).trans rfl
    have g2 : (ex_sx (ex_sx U 25 8 4) 25 9 (-1)).1 25 2 = -1 := (g 2 (by decide) (by decide)).trans rfl
    have g4 : (ex_sx (ex_sx U 25 8 4) 25 9 (-1)).1 25 4 = 0 := (g 4 (by decide) (by decide)).trans rfl
    have g6 : (ex_sx (ex_sx U 25 8 4) 25 9 (-1)).1 25 6 = 0 := (g 6 (by decide) (by decide)).trans rfl
    refine ⟨⟨g1, g2, fun _ => ⟨g4, Nat.zero_le _, g6, Nat.zero_le _, rfl, rfl, fun k j hk => absurd hk (Nat.not_lt_zero _), fun k j hk => absurd hk (Nat.not_lt_zero _), fun k hk => ?_⟩⟩, ⟨g1, g2, fun _ => ⟨g4, Nat.zero_le _, fun k hk => absurd hk (Nat.not_lt_zero _)⟩⟩⟩
    rw [ex_sx_ne (by omega), ex_sx_ne (by omega), u, if_pos hk]; rfl
/-- startOver -/
def cc14 (a : Int32) (S S' : ex_S) : Prop := ex_fx (fun a k => a = 30 ∧ 1 ≤ k) S S' ∧ ∀ n, a = Int32.ofNat n → n ≤ 600 → S.2.2.2.1 18 = 600 → tc_at S' n 0
theorem ec14 : es14 cc14 := by
  refine ev14 ?_
  intro a S
  refine ⟨((((ex_fx.refl _ S).sx (by decide)).sx (by decide)).sx (by decide)).sx (by decide), fun n e hn hl => ⟨?_, rfl, Nat.zero_le _, hn⟩⟩
  show (if Int32.ofNat (S.2.2.2.1 18) < a then Int32.ofNat (S.2.2.2.1 18) else a) = _
  rw [hl, e, if_neg (fun z => absurd ((n32_lt (by omega) (by omega)).mp z) (by omega))]
/-- readTape: a text is read -/
def cq11 (S : ex_S) (n : Nat) : Prop := n ≤ 600 ∧ S.2.2.2.1 18 = 600 ∧ S.2.2.2.1 28 = 10 ∧ S.2.2.2.1 29 = 4 ∧ ex_KV S
def cc11 (a sort : Int32) (S S' : ex_S) : Prop := ex_fx pP11 S S' ∧ ∀ n, a = Int32.ofNat n → cq11 S n → if sort = 1 then rr S' (ps_text sort (S.1 18) n) else ra S' (ps_text sort (S.1 18) n)
theorem fx18' {S T : ex_S} (F : ex_fx pP11 S T) : T.1 18 = S.1 18 := by funext j; exact F.1 18 j (by unfold pP11; omega)
/-- behind forget and startOver -/
theorem cc11_0 {a : Int32} {S U V : ex_S} (hU : cc12 S U) (hV : cc14 a U V) {n : Nat} (e : a = Int32.ofNat n) (q : cq11 S n) : tc_at V n 0 ∧ ra V pA0 ∧ rr V pA0 ∧ V.1 18 = S.1 18 ∧ ex_KV V ∧ V.2.2.2.1 29 = 4 := by
  obtain ⟨q1, q2, q3, q4, q5⟩ := q
  obtain ⟨r1, r2⟩ := hU.2.2 q3
  have F : ex_fx pP11 S V := hU.1.trans (hV.1.mono (fun a k z => by unfold pP11; omega))
  refine ⟨hV.2 n e q1 (by rw [hU.1.2]; exact q2), r1.keep (fun k => hV.1.1 25 k (by omega)) (fun k => hV.1.1 26 k (by omega)) (fun k => hV.1.1 27 k (by omega)) (fun k => hV.1.1 28 k (by omega)), r2.keep (fun k => hV.1.1 25 k (by omega)) (fun k => hV.1.1 26 k (by omega)), fx18' F, KV_fx F (fun a k z => by unfold pP11 at z; omega) q5, by rw [F.2]; exact q4⟩
theorem ec11 : es11 cc11 := by
  have P37 : ∀ a k, pP37 a k → pP11 a k := fun a k z => by unfold pP37 at z; unfold pP11; omega
  have FV : ∀ {a : Int32} {S U V : ex_S}, cc12 S U → cc14 a U V → ex_fx pP11 S V := fun hU hV => hU.1.trans (hV.1.mono (fun a k z => by unfold pP11; omega))
  -- lines, no row
  have L : ∀ {a sort : Int32} {S U V W : ex_S} {r : Int32}, cc12 S U → cc14 a U V → ¬ sort = 1 → cc22 sort V r W → ∀ n, a = Int32.ofNat n → cq11 S n → (∀ p, ps_all sort (S.1 18) n = .inl p → r = 0 ∧ W.1 30 3 = Int32.ofNat p) ∧ (∀ A', ps_all sort (S.1 18) n = .inr A' → r = 1 ∧ ra W A') := by
    intro a sort S U V W r hU hV hs hW n e q
    obtain ⟨t, r1, r2, e18, kv, hl⟩ := cc11_0 hU hV e q
    have := hW.2 n 0 601 pA0 ⟨t, r1, kv, hl, by have := q.1; omega⟩
    unfold ps_all
    rw [if_neg hs, ← e18]; exact this
  have R : ∀ {a sort : Int32} {S U V W : ex_S} {r : Int32}, cc12 S U → cc14 a U V → sort = 1 → cc15 V r W → ∀ n, a = Int32.ofNat n → cq11 S n → (∀ p, ps_all sort (S.1 18) n = .inl p → r = 0 ∧ W.1 30 3 = Int32.ofNat p) ∧ (∀ A', ps_all sort (S.1 18) n = .inr A' → r = 1 ∧ rr W A') := by
    intro a sort S U V W r hU hV hs hW n e q
    obtain ⟨t, r1, r2, e18, kv, hl⟩ := cc11_0 hU hV e q
    have := hW.2 n 0 601 pA0 ⟨t, r2, by have := q.1; omega⟩
    unfold ps_all
    rw [if_pos hs, ← e18]; exact this
  refine ev11 ec12 ec14 ec15 ec21 ec22 ?_ ?_ ?_ ?_ ?_ ?_ ?_ ?_ ?_
  · intro a sort S U hU V hV c1 r W hW c2 c3
    refine ⟨(FV hU hV).trans (hW.1.mono P37), fun n e q => ?_⟩
    rw [if_neg c1]
    obtain ⟨g1, g2⟩ := L hU hV c1 hW n e q
    unfold ps_text
    cases h : ps_all sort (S.1 18) n with
    | inl p => exact absurd (g1 p h).1 c2
    | inr A =>
      have hl : ps_last sort A = false := by unfold ps_last; rw [decide_eq_false c1, decide_eq_false c3]; rfl
      show ra W (pnote A (ps_last sort A) 4 (Int32.ofNat n))
      rw [hl, pnote_f]; exact (g2 A h).2
  · intro a sort S U hU V hV c1 r W hW c2 c3 c4
    refine ⟨(FV hU hV).trans (hW.1.mono P37), fun n e q => ?_⟩
    rw [if_neg c1]
    obtain ⟨g1, g2⟩ := L hU hV c1 hW n e q
    unfold ps_text
    cases h : ps_all sort (S.1 18) n with
    | inl p => exact absurd (g1 p h).1 c2
    | inr A =>
      show ra W (pnote A (ps_last sort A) 4 (Int32.ofNat n))
      have r := (g2 A h).2
      by_cases h0 : pf A = 0
      · obtain ⟨_, _, _, _, r5, r6, _⟩ := r.2.2 h0
        rw [r5, r6] at c4
        have hl : ps_last sort A = false := by unfold ps_last; rw [decide_eq_false c1, decide_eq_false (Int32.not_le.mpr c4)]; simp
        rw [hl, pnote_f]; exact r
      · rw [pnote_ne h0]; exact r
  · intro a sort S U hU V hV c1 r W hW c2 c3 c4 X hX
    refine ⟨((FV hU hV).trans (hW.1.mono P37)).trans (hX.fx.mono (fun a k z => by unfold pP11; omega)), fun n e q => ?_⟩
    rw [if_neg c1]
    obtain ⟨g1, g2⟩ := L hU hV c1 hW n e q
    unfold ps_text
    cases h : ps_all sort (S.1 18) n with
    | inl p => exact absurd (g1 p h).1 c2
    | inr A =>
      show ra X (pnote A (ps_last sort A) 4 (Int32.ofNat n))
      have r := (g2 A h).2
      have r' := hX.ra r (by decide)
      rw [e] at r'
      by_cases h0 : pf A = 0
      · obtain ⟨_, _, _, _, r5, r6, _⟩ := r.2.2 h0
        rw [r5, r6] at c4
        have hl : ps_last sort A = true := by unfold ps_last; rw [decide_eq_true (Classical.not_not.mp c3), decide_eq_true (Int32.not_lt.mp c4)]; simp
        rw [hl]; exact r'
      · rw [pnote_ne h0] at r' ⊢; exact r'
  · intro a sort S U hU V hV c1 r W hW c2
    refine ⟨(((FV hU hV).trans (hW.1.mono P37)).sx (by unfold pP11; omega)).sx (by unfold pP11; omega), fun n e q => ?_⟩
    rw [if_neg c1]
    obtain ⟨g1, g2⟩ := L hU hV c1 hW n e q
    unfold ps_text
    cases h : ps_all sort (S.1 18) n with
    | inl p => exact ⟨rfl, (g1 p h).2, fun z => absurd (show (1 : Int32) = 0 from z) (by decide)⟩
    | inr A => exact absurd (Classical.not_not.mp c2) (by rw [(g2 A h).1]; decide)
  · intro a sort S U hU V hV c1 r W hW c2 c3 X hX
    have c1 := Classical.not_not.mp c1
    refine ⟨((FV hU hV).trans (hW.1.mono P37)).trans (hX.fx.mono (fun a k z => by unfold pP11; omega)), fun n e q => ?_⟩
    rw [if_pos c1]
    obtain ⟨g1, g2⟩ := R hU hV c1 hW n e q
    unfold ps_text
    cases h : ps_all sort (S.1 18) n with
    | inl p => exact absurd (g1 p h).1 c2
    | inr A =>
      show rr X (pnote A (ps_last sort A) 4 (Int32.ofNat n))
      have r := (g2 A h).2
      have r' := hX.rr r (by decide)
      rw [e] at r'
      by_cases h0 : pf A = 0
      · obtain ⟨r1, r2, r3⟩ := r.2.2 h0
        rw [r1] at c3
        have hz : pic A = 0 := (n32_eq (by omega) (by decide)).mp (c3.trans (show (0 : Int32) = Int32.ofNat 0 from rfl))
        have hl : ps_last sort A = true := by unfold ps_last; rw [decide_eq_true c1, decide_eq_true hz]; rfl
        rw [hl]; exact r'
      · rw [pnote_ne h0] at r' ⊢; exact r'
  · intro a sort S U hU V hV c1 r W hW c2 c3 c4
    have c1 := Classical.not_not.mp c1
    refine ⟨(FV hU hV).trans (hW.1.mono P37), fun n e q => ?_⟩
    rw [if_pos c1]
    obtain ⟨g1, g2⟩ := R hU hV c1 hW n e q
    unfold ps_text
    cases h : ps_all sort (S.1 18) n with
    | inl p => exact absurd (g1 p h).1 c2
    | inr A =>
      show rr W (pnote A (ps_last sort A) 4 (Int32.ofNat n))
      have r := (g2 A h).2
      by_cases h0 : pf A = 0
      · obtain ⟨r1, r2, r3⟩ := r.2.2 h0
        rw [r1] at c3
        have hz : ¬ pic A = 0 := fun z => c3 (by rw [z]; rfl)
        have hl : ps_last sort A = false := by unfold ps_last; rw [decide_eq_false hz, decide_eq_false c4]; simp
        rw [hl, pnote_f]; exact r
      · rw [pnote_ne h0]; exact r
  · intro a sort S U hU V hV c1 r W hW c2 c3 c4
    exact absurd ((Classical.not_not.mp c1).symm.trans (Classical.not_not.mp c4)) (by decide)
  · intro a sort S U hU V hV c1 r W hW c2 c3 c4
    exact absurd ((Classical.not_not.mp c1).symm.trans (Classical.not_not.mp c4)) (by decide)
  · intro a sort S U hU V hV c1 r W hW c2
    have c1 := Classical.not_not.mp c1
    refine ⟨(((FV hU hV).trans (hW.1.mono P37)).sx (by unfold pP11; omega)).sx (by unfold pP11; omega), fun n e q => ?_⟩
    rw [if_pos c1]
    obtain ⟨g1, g2⟩ := R hU hV c1 hW n e q
    unfold ps_text
    cases h : ps_all sort (S.1 18) n with
    | inl p => exact ⟨rfl, (g1 p h).2, fun z => absurd (show (1 : Int32) = 0 from z) (by decide)⟩
    | inr A => exact absurd (Classical.not_not.mp c2) (by rw [(g2 A h).1]; decide)
