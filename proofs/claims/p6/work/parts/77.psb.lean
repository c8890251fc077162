theorem ex_fx.cp {P : Nat → Nat → Prop} {S T : ex_S} {a sp b dp n : Nat} (h : ex_fx P S T) (hP : ∀ j, P b j) : ex_fx P S (ex_cp T a sp b dp n) := by
  refine ⟨fun c j hc => ?_, h.2⟩
  show (if c = b ∧ dp ≤ j ∧ j < dp + n then T.1 a (sp + (j - dp)) else T.1 c j) = _
  rw [if_neg (fun z => hc (by rw [z.1]; exact hP j))]; exact h.1 c j hc
theorem ex_cp_at (S : ex_S) (a sp b dp n c j : Nat) : (ex_cp S a sp b dp n).1 c j = if c = b ∧ dp ≤ j ∧ j < dp + n then S.1 a (sp + (j - dp)) else S.1 c j := rfl
theorem n32_m4 (i : Nat) : Int32.ofNat i * 4 = Int32.ofNat (4 * i) := by
  rw [show (4 : Int32) = Int32.ofNat 4 from rfl, ← Int32.ofNat_mul, Nat.mul_comm]
/-- store -/
def cc41 (a0 : Nat) (a1 a2 : Int32) (S : ex_S) (v : Int32) (S' : ex_S) : Prop := v = a1 + 1 ∧ S' = ex_cp S 29 0 a0 ((a1 * 4) + a2).toNatClampNeg (4 - a2).toNatClampNeg
theorem ec41 : es41 cc41 := ev41 (fun _ _ _ _ => ⟨rfl, rfl⟩)
/-- keepDeedOrLaw -/
def ck42 (w : Int32) (S : ex_S) : ex_S := if 7 ≤ w then ex_sx S 26 ((S.1 25 4) * 4).toNatClampNeg (w - 7) else if w = 4 then ex_sx (ex_sx (ex_sx S 25 9 (pmx (S.1 25 9) (S.1 29 0))) 25 9 (pmx (pmx (S.1 25 9) (S.1 29 0)) (S.1 29 1))) 26 ((S.1 25 4) * 4).toNatClampNeg (w - 4) else ex_sx (ex_sx S 25 9 (pmx (S.1 25 9) (S.1 29 0))) 26 ((S.1 25 4) * 4).toNatClampNeg (w - 4)
def cc42 (w : Int32) (S S' : ex_S) : Prop := S' = ex_sx (ex_cp (ck42 w S) 29 0 26 ((S.1 25 4) * 4 + 1).toNatClampNeg 3) 25 4 (S.1 25 4 + 1)
theorem ec42 : es42 cc42 := by
  refine ev42 ec41 ?_ ?_ ?_
  · intro w S c r U hU
    obtain ⟨rfl, rfl⟩ := hU
    unfold cc42 ck42; rw [if_pos c]; rfl
  · intro w S c c2 r U hU
    obtain ⟨rfl, rfl⟩ := hU
    unfold cc42 ck42; rw [if_neg c, if_neg c2]; rfl
  · intro w S c c2 r U hU
    obtain ⟨rfl, rfl⟩ := hU
    unfold cc42 ck42; rw [if_neg c, if_pos (Classical.not_not.mp c2)]; rfl
/-- keepLine -/
def pP40 (a k : Nat) : Prop := (a = 25 ∧ 3 ≤ k) ∨ a = 26 ∨ a = 27 ∨ a = 28
def proom (w : Nat) (A : pA) : Prop := (w = 1 → prc A < 16) ∧ ((w = 0 ∨ 4 ≤ w) → pic A < 50)
def cc40 (w : Int32) (S S' : ex_S) : Prop := ex_fx pP40 S S' ∧ ∀ i A, w = Int32.ofNat i → i < 13 → ra S A → (pf A = 0 → proom i A) → ra S' (if pf A = 0 then pkeep i (S.1 29) A else A)
theorem n32_w {i k : Nat} (hi : i < 13) (hk : k < 100) (h : Int32.ofNat i = Int32.ofNat k) : i = k := (n32_eq (by omega) (by omega)).mp h
theorem ec40 : es40 cc40 := by
  refine ev40 ec41 ec42 ?_ ?_ ?_ ?_ ?_ ?_
  · intro w S c1 c2 r U hU
    obtain ⟨rfl, rfl⟩ := hU
    refine ⟨((ex_fx.refl _ S).cp (fun j => by unfold pP40; omega)).sx (by unfold pP40; omega), fun i A e hi h hr => ?_⟩
    have h0 : pf A = 0 := h.1.symm.trans c1
    have i0 : i = 0 := n32_w hi (by decide) (e.symm.trans (c2.trans (show (0 : Int32) = Int32.ofNat 0 from rfl)))
    subst i0
    obtain ⟨r1, r2, r3, r4, r5, r6, r7, r8, r9⟩ := h.2.2 h0
    have hlt : pic A < 50 := (hr h0).2 (Or.inl rfl)
    rw [if_pos h0]
    have e4 : ((S.1 25 4) * 4 + 0).toNatClampNeg = 4 * pic A := by
      rw [r1, n32_m4, show (0 : Int32) = Int32.ofNat 0 from rfl, n32_add, n32_tn (by omega)]; rfl
    refine ⟨h.1, h.2.1, fun _ => ⟨?_, ?_, r3, r4, r5, r6, fun k j hk hj => ?_, r8, r9⟩⟩
    · show S.1 25 4 + 1 = _
      rw [r1, n32_s]; rfl
    · show pic A + 1 ≤ 50
      omega
    · show (ex_cp S 29 0 26 ((S.1 25 4) * 4 + 0).toNatClampNeg 4).1 26 (4 * k + j) = if k = pic A then S.1 29 j else pit A k j
      rw [ex_cp_at, e4]
      have hk' : k < pic A + 1 := hk
      by_cases hkk : k = pic A
      · rw [if_pos ⟨rfl, by omega, by omega⟩, if_pos hkk, show 0 + (4 * k + j - 4 * pic A) = j by omega]
      · rw [if_neg (by omega), if_neg hkk]; exact r7 k j (by omega) hj
  · intro w S c1 _ c2 r U hU
    obtain ⟨rfl, rfl⟩ := hU
    refine ⟨((ex_fx.refl _ S).cp (fun j => by unfold pP40; omega)).sx (by unfold pP40; omega), fun i A e hi h hr => ?_⟩
    have h0 : pf A = 0 := h.1.symm.trans c1
    have i0 : i = 1 := n32_w hi (by decide) (e.symm.trans (c2.trans (show (1 : Int32) = Int32.ofNat 1 from rfl)))
    subst i0
    obtain ⟨r1, r2, r3, r4, r5, r6, r7, r8, r9⟩ := h.2.2 h0
    have hlt : prc A < 16 := (hr h0).1 rfl
    rw [if_pos h0]
    have e4 : ((S.1 25 6) * 4 + 0).toNatClampNeg = 4 * prc A := by
      rw [r3, n32_m4, show (0 : Int32) = Int32.ofNat 0 from rfl, n32_add, n32_tn (by omega)]; rfl
    refine ⟨h.1, h.2.1, fun _ => ⟨r1, r2, ?_, ?_, r5, r6, r7, fun k j hk hj => ?_, r9⟩⟩
    · show S.1 25 6 + 1 = _
      rw [r3, n32_s]; rfl
    · show prc A + 1 ≤ 16
      omega
    · show (ex_cp S 29 0 27 ((S.1 25 6) * 4 + 0).toNatClampNeg 4).1 27 (4 * k + j) = if k = prc A then S.1 29 j else prd A k j
      rw [ex_cp_at, e4]
      have hk' : k < prc A + 1 := hk
      by_cases hkk : k = prc A
      · rw [if_pos ⟨rfl, by omega, by omega⟩, if_pos hkk, show 0 + (4 * k + j - 4 * prc A) = j by omega]
      · rw [if_neg (by omega), if_neg hkk]; exact r8 k j (by omega) hj
  · intro w S c1 _ _ c2
    refine ⟨(ex_fx.refl _ S).sx (by unfold pP40; omega), fun i A e hi h hr => ?_⟩
    have h0 : pf A = 0 := h.1.symm.trans c1
    have i0 : i = 2 := n32_w hi (by decide) (e.symm.trans (c2.trans (show (2 : Int32) = Int32.ofNat 2 from rfl)))
    subst i0
    obtain ⟨r1, r2, r3, r4, r5, r6, r7, r8, r9⟩ := h.2.2 h0
    rw [if_pos h0]
    refine ⟨h.1, h.2.1, fun _ => ⟨r1, r2, r3, r4, r5, r6, r7, r8, fun k hk => ?_⟩⟩
    show (ex_sx S 28 _ _).1 28 k = if k = (S.1 29 0).toNatClampNeg then pnr A k ||| (1 <<< (S.1 29 1 &&& 31)) else pnr A k
    rw [ex_sx_at]
    by_cases hkk : k = (S.1 29 0).toNatClampNeg
    · rw [if_pos ⟨rfl, hkk⟩, if_pos hkk, ← hkk, r9 k hk]
    · rw [if_neg (fun z => hkk z.2), if_neg hkk]; exact r9 k hk
  · intro w S c1 _ _ _ c2
    refine ⟨(ex_fx.refl _ S).sx (by unfold pP40; omega), fun i A e hi h hr => ?_⟩
    have h0 : pf A = 0 := h.1.symm.trans c1
    have i0 : i = 3 := n32_w hi (by decide) (e.symm.trans (c2.trans (show (3 : Int32) = Int32.ofNat 3 from rfl)))
    subst i0
    obtain ⟨r1, r2, r3, r4, r5, r6, r7, r8, r9⟩ := h.2.2 h0
    rw [if_pos h0]
    exact ⟨h.1, h.2.1, fun _ => ⟨r1, r2, r3, r4, rfl, r6, r7, r8, r9⟩⟩
  · intro w S c1 d0 d1 d2 d3 U hU
    have hU' : U = ex_sx (ex_cp (ck42 w S) 29 0 26 ((S.1 25 4) * 4 + 1).toNatClampNeg 3) 25 4 (S.1 25 4 + 1) := hU
    subst hU'
    have F0 : ex_fx pP40 S (ck42 w S) := by
      unfold ck42
      split
      · exact (ex_fx.refl _ S).sx (by unfold pP40; omega)
      · split
        · exact (((ex_fx.refl _ S).sx (by unfold pP40; omega)).sx (by unfold pP40; omega)).sx (by unfold pP40; omega)
        · exact ((ex_fx.refl _ S).sx (by unfold pP40; omega)).sx (by unfold pP40; omega)
    refine ⟨(F0.cp (fun j => by unfold pP40; omega)).sx (by unfold pP40; omega), fun i A e hi h hr => ?_⟩
    have h0 : pf A = 0 := h.1.symm.trans c1
    have i0 : ¬ i = 0 := fun z => d0 (by rw [e, z]; rfl)
    have i1 : ¬ i = 1 := fun z => d1 (by rw [e, z]; rfl)
    have i2 : ¬ i = 2 := fun z => d2 (by rw [e, z]; rfl)
    have i3 : ¬ i = 3 := fun z => d3 (by rw [e, z]; rfl)
    obtain ⟨r1, r2, r3, r4, r5, r6, r7, r8, r9⟩ := h.2.2 h0
    have hlt : pic A < 50 := (hr h0).2 (Or.inr (by omega))
    rw [if_pos h0]
    have e4 : ((S.1 25 4) * 4 + 1).toNatClampNeg = 4 * pic A + 1 := by
      rw [r1, n32_m4, n32_s, n32_tn (by omega)]
    have e5 : ((S.1 25 4) * 4).toNatClampNeg = 4 * pic A := by
      rw [r1, n32_m4, n32_tn (by omega)]
    -- what ck42 leaves
    have q29 : ∀ j, (ck42 w S).1 29 j = S.1 29 j := fun j => F0.1 29 j (by unfold pP40; omega)
    have q26 : ∀ j, (ck42 w S).1 26 j = if j = 4 * pic A then (if i < 7 then Int32.ofNat (i - 4) else Int32.ofNat (i - 7)) else S.1 26 j := by
      intro j
      unfold ck42
      rw [e5]
      by_cases h7 : i < 7
      · have c7 : ¬ 7 ≤ w := by rw [e, show (7 : Int32) = Int32.ofNat 7 from rfl, n32_le (by omega) (by omega)]; omega
        have ew : w - 4 = Int32.ofNat (i - 4) := by rw [e, show (4 : Int32) = Int32.ofNat 4 from rfl, n32_sub (by omega)]
        rw [if_neg c7, if_pos h7]
        split
        · rw [ex_sx_at]
          by_cases hj : j = 4 * pic A
          · rw [if_pos ⟨rfl, hj⟩, if_pos hj, ew]
          · rw [if_neg (fun z => hj z.2), if_neg hj]; rfl
        · rw [ex_sx_at]
          by_cases hj : j = 4 * pic A
          · rw [if_pos ⟨rfl, hj⟩, if_pos hj, ew]
          · rw [if_neg (fun z => hj z.2), if_neg hj]; rfl
      · have c7 : 7 ≤ w := by rw [e, show (7 : Int32) = Int32.ofNat 7 from rfl, n32_le (by omega) (by omega)]; omega
        have ew : w - 7 = Int32.ofNat (i - 7) := by rw [e, show (7 : Int32) = Int32.ofNat 7 from rfl, n32_sub (by omega)]
        rw [if_pos c7, if_neg h7, ex_sx_at]
        by_cases hj : j = 4 * pic A
        · rw [if_pos ⟨rfl, hj⟩, if_pos hj, ew]
        · rw [if_neg (fun z => hj z.2), if_neg hj]
    have q25 : ∀ j, j ≠ 9 → (ck42 w S).1 25 j = S.1 25 j := by
      intro j hj
      unfold ck42
      split
      · rw [ex_sx_ne (by omega)]
      · split
        · rw [ex_sx_ne (by omega), ex_sx_ne (by omega), ex_sx_ne (by omega)]
        · rw [ex_sx_ne (by omega), ex_sx_ne (by omega)]
    have q9 : (ck42 w S).1 25 9 = if i < 7 then (if i = 4 then pmx (pmx (phi A) (S.1 29 0)) (S.1 29 1) else pmx (phi A) (S.1 29 0)) else phi A := by
      unfold ck42
      by_cases h7 : i < 7
      · have c7 : ¬ 7 ≤ w := by rw [e, show (7 : Int32) = Int32.ofNat 7 from rfl, n32_le (by omega) (by omega)]; omega
        rw [if_neg c7, if_pos h7]
        by_cases h4 : i = 4
        · have c4 : w = 4 := by rw [e, h4]; rfl
          rw [if_pos c4, if_pos h4, ex_sx_ne (by omega), ex_sx_eq, r6]
        · have c4 : ¬ w = 4 := fun z => h4 (n32_w hi (by decide) (e.symm.trans (z.trans (show (4 : Int32) = Int32.ofNat 4 from rfl))))
          rw [if_neg c4, if_neg h4, ex_sx_ne (by omega), ex_sx_eq, r6]
      · have c7 : 7 ≤ w := by rw [e, show (7 : Int32) = Int32.ofNat 7 from rfl, n32_le (by omega) (by omega)]; omega
        rw [if_pos c7, if_neg h7, ex_sx_ne (by omega), r6]
    have q27 : ∀ j, (ck42 w S).1 27 j = S.1 27 j := by
      intro j; unfold ck42
      split
      · rw [ex_sx_ne (by omega)]
      · split
        · rw [ex_sx_ne (by omega), ex_sx_ne (by omega), ex_sx_ne (by omega)]
        · rw [ex_sx_ne (by omega), ex_sx_ne (by omega)]
    have q28 : ∀ j, (ck42 w S).1 28 j = S.1 28 j := by
      intro j; unfold ck42
      split
      · rw [ex_sx_ne (by omega)]
      · split
        · rw [ex_sx_ne (by omega), ex_sx_ne (by omega), ex_sx_ne (by omega)]
        · rw [ex_sx_ne (by omega), ex_sx_ne (by omega)]
    have ek : pkeep i (S.1 29) A = (pf A, pp A, pic A + 1, fun k j => if k = pic A then (if j = 0 then (if i < 7 then Int32.ofNat (i - 4) else Int32.ofNat (i - 7)) else S.1 29 (j - 1)) else pit A k j, prc A, prd A, pnr A, pst A, if i < 7 then (if i = 4 then pmx (pmx (phi A) (S.1 29 0)) (S.1 29 1) else pmx (phi A) (S.1 29 0)) else phi A) := by
      unfold pkeep; rw [if_neg i0, if_neg i1, if_neg i2, if_neg i3]
    rw [ek]
    have z25 : ∀ j, j ≠ 4 → (ex_sx (ex_cp (ck42 w S) 29 0 26 ((S.1 25 4) * 4 + 1).toNatClampNeg 3) 25 4 (S.1 25 4 + 1)).1 25 j = (ck42 w S).1 25 j := by
      intro j hj; rw [ex_sx_ne (by omega), ex_cp_at, if_neg (by omega)]
    refine ⟨?_, ?_, fun _ => ⟨?_, ?_, ?_, r4, ?_, ?_, fun k j hk hj => ?_, fun k j hk hj => ?_, fun k hk => ?_⟩⟩
    · rw [z25 1 (by decide), q25 1 (by decide)]; exact h.1
    · rw [z25 2 (by decide), q25 2 (by decide)]; exact h.2.1
    · rw [ex_sx_eq, r1, n32_s]; rfl
    · show pic A + 1 ≤ 50
      omega
    · rw [z25 6 (by decide), q25 6 (by decide)]; exact r3
    · rw [z25 8 (by decide), q25 8 (by decide)]; exact r5
    · rw [z25 9 (by decide), q9]; rfl
    · rw [ex_sx_ne (by omega), ex_cp_at, e4]
      have hk' : k < pic A + 1 := hk
      show _ = if k = pic A then (if j = 0 then (if i < 7 then Int32.ofNat (i - 4) else Int32.ofNat (i - 7)) else S.1 29 (j - 1)) else pit A k j
      by_cases hkk : k = pic A
      · rw [if_pos hkk]
        by_cases hj0 : j = 0
        · rw [if_neg (by omega), q26, if_pos (by omega), if_pos hj0]
        · rw [if_pos ⟨rfl, by omega, by omega⟩, q29, if_neg hj0, show 0 + (4 * k + j - (4 * pic A + 1)) = j - 1 by omega]
      · rw [if_neg (by omega), q26, if_neg (by omega), if_neg hkk]; exact r7 k j (by omega) hj
    · rw [ex_sx_ne (by omega), ex_cp_at, if_neg (by omega), q27]; exact r8 k j hk hj
    · rw [ex_sx_ne (by omega), ex_cp_at, if_neg (by omega), q28]; exact r9 k hk
  · intro w S c1
    refine ⟨ex_fx.refl _ S, fun i A e hi h hr => ?_⟩
    rw [if_neg (fun z => c1 (h.1.trans z))]; exact h
