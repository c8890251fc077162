def rg178 (sort : Int32) (S : ex_S) (x y : Int32) (T : ex_S) : Prop := rb178 sort S x T ∧ (y = 0 → ∀ n A, rq178 S n → ps_all sort (S.1 42) n = .inr A → pf A = 0 → ps_last sort A = false) ∧ (¬ y = 0 → ∀ n A, rq178 S n → ps_all sort (S.1 42) n = .inr A → pf A = 0 → ps_last sort A = true)
def rh178 (S : ex_S) (x : Int32) (T : ex_S) : Prop := ex_fx (fun a _ => a = 51) S T ∧ ∃ i, i ≤ 152 ∧ x = Int32.ofNat i ∧ ∀ j, j < i → T.1 51 j = 0
/-- the first token of all -/
theorem ra178.start {sort : Int32} {S T U : ex_S} (h : ra178 sort S T) (hU : rc179 (ex_sx (ex_sx (ex_sx T 41 21 (-1)) 41 10 0) 41 17 0) U) : ex_fw rpl S U ∧ ∀ n, rq178 S n → U.1 42 = S.1 42 ∧ rtok U n 0 ∧ (∀ m, rqf U pA0 m) ∧ rqc1 U pA0 = rqc1 U pA0 ∧ (¬ sort = 1 → rqC sort U pA0) ∧ (sort = 1 → rqc1 U pA0) := by
  have F1 : ex_fw rpl S (ex_sx (ex_sx (ex_sx T 41 21 (-1)) 41 10 0) 41 17 0) := ((h.1.sx (by unfold rpl; omega)).sx (by unfold rpl; omega)).sx (by unfold rpl; omega)
  have F2 : ex_fw rpl S U := F1.trans ((hU.1.mono rp179_n).mono rpn_l)
  refine ⟨F2, fun n q => ?_⟩
  have e42 := fw42l F2
  have e1 := fw42l F1
  have t : tr_at (ex_sx (ex_sx (ex_sx T 41 21 (-1)) 41 10 0) 41 17 0) n 0 := ⟨(F1.1 41 11 (by unfold rpl; omega)).trans q.1, rfl, Nat.zero_le _, q.2.1, fun i => by rw [e1]; exact q.2.2 i⟩
  have u51 : ∀ j, j < 152 → U.1 51 j = if j = 0 ∧ sort = 2 then 4 else 0 := fun j hj => by
    rw [hU.1.1 51 j (by unfold rp179; omega), ex_sx_ne (by omega), ex_sx_ne (by omega), ex_sx_ne (by omega)]; exact h.2 j hj
  have u17 : U.1 41 17 = 0 := by rw [hU.1.1 41 17 (by unfold rp179; omega)]; rfl
  have u21 : U.1 41 21 = -1 := by rw [hU.1.1 41 21 (by unfold rp179; omega)]; rfl
  refine ⟨e42, hU.tok t, fun m => ⟨u17, fun z => absurd rfl z⟩, rfl, fun h1 => ?_, fun h1 => ?_⟩
  · unfold rqC
    by_cases h0 : sort = 0
    · rw [if_pos h0]
      have n2 : ¬ sort = 2 := fun z => absurd (h0.symm.trans z) (by decide)
      refine ⟨by rw [u51 0 (by decide), if_neg (fun z => n2 z.2)]; rfl, Nat.zero_le _, by rw [u51 1 (by decide), if_neg (fun z => n2 z.2)]; rfl, Nat.zero_le _, fun k j hk => absurd hk (Nat.not_lt_zero _), fun k j hk => absurd hk (Nat.not_lt_zero _), fun k hk => by rw [u51 (90 + k) (by omega), if_neg (fun z => n2 z.2)]; rfl⟩
    · rw [if_neg h0]
      by_cases h2 : sort = 2
      · rw [if_pos h2]
        exact ⟨by rw [u51 0 (by decide), if_pos ⟨rfl, h2⟩]; rfl, by rw [u51 1 (by decide), if_neg (by omega)]; rfl, Nat.zero_le _, u21, fun k j hk => absurd hk (Nat.not_lt_zero _)⟩
      · rw [if_neg h2]
        exact ⟨by rw [u51 0 (by decide), if_neg (fun z => h2 z.2)]; rfl, Nat.zero_le _, fun k j hk => absurd hk (Nat.not_lt_zero _)⟩
  · have n2 : ¬ sort = 2 := fun z => absurd (h1.symm.trans z) (by decide)
    exact ⟨by rw [u51 0 (by decide), if_neg (fun z => n2 z.2)]; rfl, Nat.zero_le _, fun k hk => absurd hk (Nat.not_lt_zero _)⟩
theorem ec178 : es178 rc178 := by
  refine ev178 (I2 := fun _ S x T => rh178 S x T) (I38 := ra178) (I75 := rb178) (I121 := rg178) (I145 := rd178) (I163 := re178) (I195 := rf178) ec179 ec181 ec182 ec186 ?_ ?_ ?_ ?_ ?_ ?_ ?_ ?_ ?_ ?_ ?_ ?_ ?_ ?_ ?_ ?_ ?_ ?_ ?_ ?_ ?_ ?_
  · intro sort S; exact ⟨ex_fx.refl _ S, 0, by decide, rfl, fun j hj => absurd hj (by omega)⟩
  · intro sort S x T hI c c1
    obtain ⟨F, i, i1, i2, i3⟩ := hI
    rw [i2, show (152 : Int32) = Int32.ofNat 152 from rfl, n32_le (by omega) (by omega)] at c
    refine ⟨(F.w.mono (fun a k z => by unfold rpl; omega)).sx (by unfold rpl; omega), fun j hj => ?_⟩
    rw [ex_sx_at, if_neg (show ¬ (j = 0 ∧ sort = 2) from fun z => c1 z.2)]
    split
    · rfl
    · exact i3 j (by omega)
  · intro sort S x T hI c c1
    obtain ⟨F, i, i1, i2, i3⟩ := hI
    rw [i2, show (152 : Int32) = Int32.ofNat 152 from rfl, n32_le (by omega) (by omega)] at c
    refine ⟨(F.w.mono (fun a k z => by unfold rpl; omega)).sx (by unfold rpl; omega), fun j hj => ?_⟩
    rw [ex_sx_at]
    by_cases h0 : j = 0
    · rw [if_pos ⟨rfl, h0⟩, if_pos ⟨h0, Classical.not_not.mp c1⟩]
    · rw [if_neg (fun z => h0 z.2), if_neg (fun z => h0 z.1)]; exact i3 j (by omega)
  · intro sort S x T hI c
    obtain ⟨F, i, i1, i2, i3⟩ := hI
    rw [i2, show (152 : Int32) = Int32.ofNat 152 from rfl, n32_le (by omega) (by omega)] at c
    refine ⟨F.sx rfl, i + 1, by omega, by rw [i2, n32_s], fun j hj => ?_⟩
    rw [ex_sx_at, i2, n32_tn (by omega)]
    by_cases h : j = i
    · rw [if_pos ⟨rfl, h⟩]
    · rw [if_neg (fun z => h z.2)]; exact i3 j (by omega)
  · intro sort S T hI U hU c r V hV
    obtain ⟨F, st⟩ := hI.start hU
    refine ⟨F.trans hV.1, fun n q => ?_⟩
    obtain ⟨e42, t, f, _, cc, _⟩ := st n q
    have := hV.2 n 0 601 pA0 ⟨t, f _, fun _ => cc c, by have := q.2.1; omega⟩
    rw [e42] at this
    unfold ps_all
    rw [if_neg c]
    refine ⟨this.1, fun A e => ?_⟩
    obtain ⟨a1, a2, a3, a4⟩ := this.2 A e
    exact ⟨a1, a2, a3, fun z => by unfold rqT; rw [if_neg c]; exact a4 z⟩
  · intro sort S T hI U hU c r V hV
    have c := Classical.not_not.mp c
    obtain ⟨F, st⟩ := hI.start hU
    refine ⟨F.trans hV.1, fun n q => ?_⟩
    obtain ⟨e42, t, f, _, _, cc⟩ := st n q
    have := hV.2 n 0 601 pA0 ⟨t, f _, fun _ => cc c, by have := q.2.1; omega⟩
    rw [e42] at this
    unfold ps_all
    rw [if_pos c]
    refine ⟨this.1, fun A e => ?_⟩
    obtain ⟨a1, a2, a3, a4⟩ := this.2 A e
    exact ⟨a1, a2, a3, fun z => by unfold rqT; rw [if_pos c]; exact a4 z⟩
  · intro sort S x T hI c1 c2
    refine ⟨hI, fun _ n A q e h0 => ?_, fun z => absurd rfl z⟩
    unfold ps_last; rw [decide_eq_false c1, decide_eq_false c2]; rfl
  · intro sort S x T hI c1 c2 c3
    have c2 := Classical.not_not.mp c2
    refine ⟨hI, fun _ n A q e h0 => ?_, fun z => absurd rfl z⟩
    have cc := ((hI.2 n q).2 A e).2.2.2 h0
    unfold rqT rqC at cc
    rw [if_neg c1, if_neg (fun z => absurd (z.symm.trans c2) (by decide)), if_pos c2] at cc
    rw [cc.1, cc.2.2.2.1] at c3
    unfold ps_last; rw [decide_eq_false c1, decide_eq_false (Int32.not_le.mpr c3)]; simp
  · intro sort S x T hI c1 c2 c3
    have c2 := Classical.not_not.mp c2
    refine ⟨hI, fun z => absurd z (by decide), fun _ n A q e h0 => ?_⟩
    have cc := ((hI.2 n q).2 A e).2.2.2 h0
    unfold rqT rqC at cc
    rw [if_neg c1, if_neg (fun z => absurd (z.symm.trans c2) (by decide)), if_pos c2] at cc
    rw [cc.1, cc.2.2.2.1] at c3
    unfold ps_last; rw [decide_eq_true c2, decide_eq_true (Int32.not_lt.mp c3)]; simp
  · intro sort S x T hI c1 c2
    have c1 := Classical.not_not.mp c1
    refine ⟨hI, fun _ n A q e h0 => ?_, fun z => absurd rfl z⟩
    have cc := ((hI.2 n q).2 A e).2.2.2 h0
    unfold rqT at cc
    rw [if_pos c1] at cc
    unfold ps_last
    rw [decide_eq_false (show ¬ pic A = 0 from fun z => c2 (by rw [cc.1, z]; rfl)), decide_eq_false (show ¬ sort = 2 from fun z => absurd (c1.symm.trans z) (by decide))]; simp
  · intro sort S x T hI c1 c2
    have c1 := Classical.not_not.mp c1
    refine ⟨hI, fun z => absurd z (by decide), fun _ n A q e h0 => ?_⟩
    have cc := ((hI.2 n q).2 A e).2.2.2 h0
    unfold rqT at cc
    rw [if_pos c1] at cc
    have hz : pic A = 0 := (n32_eq (by have := cc.2.1; omega) (by decide)).mp (cc.1.symm.trans ((Classical.not_not.mp c2).trans (show (0 : Int32) = Int32.ofNat 0 from rfl)))
    unfold ps_last; rw [decide_eq_true c1, decide_eq_true hz]; rfl
  · intro sort S x y T hI c
    refine ⟨hI.1.1, fun n q => ⟨(hI.1.2 n q).1, fun A e => ?_⟩⟩
    exact absurd (((hI.1.2 n q).2 A e).1.symm.trans c) (by decide)
  · intro sort S x y T hI c c1
    refine rd178_of hI.1 (fun n A q e z => ?_)
    exact absurd (((hI.1.2 n q).2 A e).2.2.1.1.trans z) c1
  · intro sort S x y T hI c c1 c2
    exact rd178_of hI.1 (hI.2.1 c2)
  · intro sort S x y T hI c c1 c2 U hU
    obtain ⟨hb, _, hl⟩ := hI
    refine ⟨hb.1.trans ((hU.fw.mono rp182_n).mono rpn_l), fun n q => ⟨fun p e => ?_, fun A e => ?_⟩⟩
    · exact absurd ((hb.2 n q).1 p e).1 c
    · obtain ⟨x1, e12, f, cc⟩ := (hb.2 n q).2 A e
      have h0 : pf A = 0 := f.1.symm.trans (Classical.not_not.mp c1)
      rw [hl c2 n A q e h0]
      rw [e12] at hU
      have := hU.note f q.2.1 (by decide)
      refine ⟨x1, this.1, fun z => (this.2 z).1, fun z => absurd z (pnote_tr (by decide))⟩
  · intro sort S x T hI c
    exact ⟨T, hI, by rw [if_pos c]⟩
  · intro sort S x T hI c
    exact ⟨T, hI, by rw [if_neg c]⟩
  · intro sort S x T hI c c1
    obtain ⟨U, hU, rfl⟩ := hI
    rw [ex_sx_ne (by omega)] at c1
    exact ⟨x, U, hU, by rw [if_neg c, if_neg c, if_pos c1]⟩
  · intro sort S x T hI c c1
    obtain ⟨U, hU, rfl⟩ := hI
    rw [ex_sx_ne (by omega)] at c1
    refine ⟨x, U, hU, ?_⟩
    rw [if_neg c, if_neg c, if_neg c1]
    show ex_sx _ 45 0 ((ex_sx U 44 0 (U.1 41 17)).1 41 18) = _
    rw [ex_sx_ne (by omega)]
  · intro sort S x T hI c
    have c := Classical.not_not.mp c
    obtain ⟨U, hU, rfl⟩ := hI
    refine ⟨x, U, hU, ?_⟩
    rw [if_pos c, if_pos c]
    show ex_sx _ 45 0 ((ex_sx U 44 0 1).1 41 16) = _
    rw [ex_sx_ne (by omega)]
  · intro sort S T hI c
    exact rf178_c hI ⟨fun _ => c, fun _ => rfl⟩
  · intro sort S T hI c
    exact rf178_c hI ⟨fun z => absurd z (by decide), fun z => absurd (Classical.not_not.mp c) z⟩
