/-! A ROW's text, all lines, a text: the reference -/
def rqc1 (S : ex_S) (A : pA) : Prop := S.1 51 0 = Int32.ofNat (pic A) ∧ pic A ≤ 12 ∧ ∀ k, k < pic A → S.1 51 (1 + k) = pit A k 0
theorem pr_un {T : Nat → Int32} {n m b : Nat} {A : pA} : pr_run T n (m + 1) b A = if tk_k T n b = 0 then .inr A else if tk_k T n b = 2 then pr_run T n m (tk_e T n b) (pr_one T n b A) else .inl (tk_s T n b) := rfl
def rq181 (S : ex_S) (n b k : Nat) (A : pA) : Prop := rtok S n b ∧ rqf S A (tk_s (S.1 42) n b) ∧ (pf A = 0 → rqc1 S A) ∧ n < b + k
def rc181 (S : ex_S) (v : Int32) (S' : ex_S) : Prop := ex_fw rpl S S' ∧ ∀ n b k A, rq181 S n b k A → (∀ p, pr_run (S.1 42) n k b A = .inl p → v = 0 ∧ S'.1 41 16 = Int32.ofNat p) ∧ (∀ A', pr_run (S.1 42) n k b A = .inr A' → v = 1 ∧ S'.1 41 12 = Int32.ofNat n ∧ rqf S' A' n ∧ (pf A' = 0 → rqc1 S' A'))
def ri181 (S T : ex_S) : Prop := ex_fw rpl S T ∧ ∀ n b k A, rq181 S n b k A → ∃ b' k' A', rq181 T n b' k' A' ∧ pr_run (S.1 42) n k' b' A' = pr_run (S.1 42) n k b A
theorem fw42l {S T : ex_S} (F : ex_fw rpl S T) : T.1 42 = S.1 42 := by funext j; exact F.1 42 j (by unfold rpl; omega)
theorem pr_one_f {T : Nat → Int32} {n b : Nat} {A : pA} : pf (pr_one T n b A) = pf (pnote (pnote A (decide (10 ≤ tk_v T n b)) 2 (Int32.ofNat (tk_s T n b))) (decide (12 ≤ pic A)) 3 (Int32.ofNat (tk_s T n b))) ∧ pp (pr_one T n b A) = pp (pnote (pnote A (decide (10 ≤ tk_v T n b)) 2 (Int32.ofNat (tk_s T n b))) (decide (12 ≤ pic A)) 3 (Int32.ofNat (tk_s T n b))) := by
  unfold pr_one
  split
  · rename_i h
    obtain ⟨e1, _, e3⟩ := pnote_0 (by decide) h
    obtain ⟨_, _, e4⟩ := pnote_0 (by decide) e1
    rw [e3, e4]; exact ⟨rfl, rfl⟩
  · exact ⟨rfl, rfl⟩
theorem pr_one_0 {T : Nat → Int32} {n b : Nat} {A : pA} (h : pf (pr_one T n b A) = 0) : pr_one T n b A = pr_keep (tk_v T n b) A ∧ pf A = 0 ∧ pic A < 12 := by
  have h' := h
  rw [pr_one_f.1] at h
  obtain ⟨e1, e2, e3⟩ := pnote_0 (by decide) h
  obtain ⟨e4, _, _⟩ := pnote_0 (by decide) e1
  refine ⟨?_, e4, by have := of_decide_eq_false e2; omega⟩
  unfold pr_one
  rw [if_pos h]
/-- what a NUMBER leaves: told row and first FAULT -/
theorem ri181_go {S T U V : ex_S} {r : Int32} {n b k : Nat} {A : pA} (h42 : T.1 42 = S.1 42) (q : rq181 T n b k A) (hk : tk_k (S.1 42) n b = 2) (W : ex_S) (FW : ex_fw rp182 T W) (tW : rtok W n b) (hU : rc183 0 9 (-1) W r U) (hV : rc185 0 1 1 12 0 U V) (hf : rqf U (pr_one (S.1 42) n b A) (tk_s (S.1 42) n b + 1)) : rq181 V n (tk_e (S.1 42) n b) (k - 1) (pr_one (S.1 42) n b A) ∧ V.1 42 = S.1 42 := by
  obtain ⟨q1, q2, q3, q4⟩ := q
  have w42 : W.1 42 = S.1 42 := by funext j; rw [FW.1 42 j (by unfold rp182; omega), h42]
  obtain ⟨_, u⟩ := hU.2 n b tW
  rw [w42] at u
  obtain ⟨u1, u2, u3, _, _, _⟩ := u hk
  have u42 : U.1 42 = S.1 42 := by funext j; rw [hU.1.1 42 j (by unfold rp183; omega), w42]
  have v42 : V.1 42 = S.1 42 := by funext j; rw [hV.1.1 42 j (by omega), u42]
  have gt := tk_e_gt (T := S.1 42) (n := n) (b := b) (by omega)
  have gs := tk_s_ge (T := S.1 42) (n := n) (b := tk_e (S.1 42) n b)
  have gs0 := tk_s_ge (T := S.1 42) (n := n) (b := b)
  refine ⟨⟨u2.keep (fun k _ _ => hV.1.1 41 k (by omega)) (fun i => hV.1.1 42 i (by omega)) (by rw [hV.1.2]), ?_, fun z => ?_, by omega⟩, v42⟩
  · rw [v42]; exact hf.keep (hV.1.1 41 17 (by omega)) (hV.1.1 41 18 (by omega)) (by omega)
  · obtain ⟨e1, e2, e3⟩ := pr_one_0 z
    obtain ⟨h1, h2, h3⟩ := q3 e2
    rw [e1]
    have w51 : ∀ j, U.1 51 j = T.1 51 j := fun j => by rw [hU.1.1 51 j (by unfold rp183; omega), FW.1 51 j (by unfold rp182; omega)]
    have y := hV.2 0 1 1 12 (pic A) rfl rfl rfl rfl rfl (by rw [w51]; exact h1) (by decide) (by decide) (by decide) (by decide) (by omega) (by decide)
    refine ⟨?_, ?_, fun i hi => ?_⟩
    · rw [y, if_pos rfl]; rfl
    · show pic A + 1 ≤ 12
      omega
    · have hi' : i < pic A + 1 := hi
      show _ = if i = pic A then tk_v (S.1 42) n b else pit A i 0
      rw [y, if_neg (by omega)]
      by_cases hii : i = pic A
      · rw [if_pos (by omega), if_pos hii, show 1 + i - (1 + 1 * pic A) = 0 by omega, u3 0, if_pos (show (0 : Nat) = Int32.toNatClampNeg 0 from rfl)]
      · rw [if_neg (by omega), if_neg hii, w51]; exact h3 i (by omega)
theorem i32_9 {v : Int32} : (9 < v) ↔ 10 ≤ v := by
  rw [Int32.lt_iff_toInt_lt, Int32.le_iff_toInt_le]
  have a : (9 : Int32).toInt = 9 := rfl
  have b : (10 : Int32).toInt = 10 := rfl
  omega
theorem rb9 {v : Int32} (hv : 0 ≤ v.toInt) : rbad 9 (-1) v = decide (10 ≤ v) := by
  have nv : ¬ v = -1 := fun z => by
    rw [z] at hv
    have e1 : (-1 : Int32).toInt = -1 := rfl
    omega
  unfold rbad
  by_cases h : 10 ≤ v
  · rw [decide_eq_true h, decide_eq_true (Or.inl (i32_9.mpr h))]
  · rw [decide_eq_false h, decide_eq_false (fun z => z.elim (fun y => h (i32_9.mp y)) nv)]
theorem ec181 : es181 rc181 := by
  have UP : ∀ {S T V : ex_S} {n b k b' k' : Nat} {A A' : pA}, T.1 42 = S.1 42 → tk_k (S.1 42) n b' = 2 → rq181 T n b' k' A' → pr_run (S.1 42) n k' b' A' = pr_run (S.1 42) n k b A → rq181 V n (tk_e (S.1 42) n b') (k' - 1) (pr_one (S.1 42) n b' A') → ∃ b'' k'' A'', rq181 V n b'' k'' A'' ∧ pr_run (S.1 42) n k'' b'' A'' = pr_run (S.1 42) n k b A := by
    intro S T V n b k b' k' A A' h42 hk q e qV
    have hbn := q.1.2.1
    have q4 := q.2.2.2
    obtain ⟨m, rfl⟩ : ∃ m, k' = m + 1 := ⟨k' - 1, by omega⟩
    refine ⟨_, _, _, qV, ?_⟩
    rw [← e, pr_un, if_neg (by omega), if_pos hk]; rfl
  refine ev181 (I0 := ri181) ec182 ec183 ec185 ?_ ?_ ?_ ?_ ?_ ?_ ?_ ?_
  · intro S; exact ⟨ex_fw.refl _ S, fun n b k A q => ⟨b, k, A, q, rfl⟩⟩
  · intro S T hI c
    refine ⟨hI.1, fun n b k A q => ?_⟩
    obtain ⟨b', k', A', q', e⟩ := hI.2 n b k A q
    have e42 := fw42l hI.1
    have k0 := (q'.1.k (k := 0) (by decide)).mp c
    have s0 := tk_k0 k0 q'.1.2.1
    rw [e42] at k0
    rw [← e, pr_0 k0]
    refine ⟨fun p z => (by cases z), fun A'' z => ?_⟩
    cases z
    refine ⟨rfl, ?_, ?_, q'.2.2.1⟩
    · rw [q'.1.2.2.2.2.1, s0]
    · have := q'.2.1; rw [s0] at this; exact this
  · intro S T hI c0 c1 r U hU cr V hV
    refine ⟨(hI.1.trans ((hU.1.mono rp183_n).mono rpn_l)).trans (hV.1.w.mono (fun a k z => by unfold rpl; omega)), fun n b k A q => ?_⟩
    obtain ⟨b', k', A', q', e⟩ := hI.2 n b k A q
    exact absurd ((hU.2 n b' q'.1).1 (fun z => c1 ((q'.1.k (k := 2) (by decide)).mpr z))).1 cr
  · intro S T hI c0 c1 r U hU cr
    refine ⟨hI.1.trans ((hU.1.mono rp183_n).mono rpn_l), fun n b k A q => ?_⟩
    obtain ⟨b', k', A', q', e⟩ := hI.2 n b k A q
    have e42 := fw42l hI.1
    have nk : tk_k (T.1 42) n b' ≠ 2 := fun z => c1 ((q'.1.k (k := 2) (by decide)).mpr z)
    have n0 : tk_k (T.1 42) n b' ≠ 0 := fun z => c0 ((q'.1.k (k := 0) (by decide)).mpr z)
    have h := ((hU.2 n b' q'.1).1 nk).2
    rw [e42] at nk n0 h
    have hbn := q'.1.2.1
    have q4 := q'.2.2.2
    obtain ⟨m, rfl⟩ : ∃ m, k' = m + 1 := ⟨k' - 1, by omega⟩
    rw [← e, pr_un, if_neg n0, if_neg nk]
    refine ⟨fun p z => ?_, fun A'' z => (by cases z)⟩
    cases z
    exact ⟨rfl, h⟩
  · intro S T hI c0 c1 c2 r U hU cr V hV
    refine ⟨(hI.1.trans ((hU.1.mono rp183_n).mono rpn_l)).trans (hV.1.w.mono (fun a k z => by unfold rpl; omega)), fun n b k A q => ?_⟩
    obtain ⟨b', k', A', q', e⟩ := hI.2 n b k A q
    have e42 := fw42l hI.1
    have k2 := (q'.1.k (k := 2) (by decide)).mp (Classical.not_not.mp c1)
    have h6 := ((hU.2 n b' q'.1).2 k2).2.2.2.2.2 A' q'.2.1
    rw [e42] at k2 h6
    refine UP e42 k2 q' e (ri181_go e42 q' k2 T (ex_fw.refl _ T) q'.1 hU hV ?_).1
    rw [rb9 (tk_v_b k2).1] at h6
    have d : pf A' = 0 → decide (12 ≤ pic A') = false := fun z => by
      obtain ⟨h1, h2, _⟩ := q'.2.2.1 z
      exact decide_eq_false (fun y => c2 (by rw [h1, show pic A' = 12 by omega]; rfl))
    obtain ⟨f1, f2⟩ := pr_one_f (T := S.1 42) (n := n) (b := b') (A := A')
    unfold rqf
    rw [f1, f2]
    by_cases z : pf A' = 0
    · rw [d z, pnote_f]; exact h6
    · have e1 : pnote A' (decide (10 ≤ tk_v (S.1 42) n b')) 2 (Int32.ofNat (tk_s (S.1 42) n b')) = A' := pnote_ne z
      rw [e1] at h6 ⊢
      rw [pnote_ne z]; exact h6
  · intro S T hI c0 c1 c2 r U hU cr
    refine ⟨hI.1.trans ((hU.1.mono rp183_n).mono rpn_l), fun n b k A q => ?_⟩
    obtain ⟨b', k', A', q', e⟩ := hI.2 n b k A q
    have k2 := (q'.1.k (k := 2) (by decide)).mp (Classical.not_not.mp c1)
    exact absurd (((hU.2 n b' q'.1).2 k2).1.symm.trans (Classical.not_not.mp cr)) (by decide)
  · intro S T hI c0 c1 c2 W hW r U hU cr V hV
    refine ⟨((hI.1.trans ((hW.fw.mono rp182_n).mono rpn_l)).trans ((hU.1.mono rp183_n).mono rpn_l)).trans (hV.1.w.mono (fun a k z => by unfold rpl; omega)), fun n b k A q => ?_⟩
    obtain ⟨b', k', A', q', e⟩ := hI.2 n b k A q
    have e42 := fw42l hI.1
    have k2 := (q'.1.k (k := 2) (by decide)).mp (Classical.not_not.mp c1)
    have tW : rtok W n b' := q'.1.keep (fun k h1 h2 => hW.fw.1 41 k (by unfold rp182; omega)) (fun i => hW.fw.1 42 i (by unfold rp182; omega)) (by
      have hW' : W = _ := hW
      rw [hW']; split <;> rfl)
    have w42 : W.1 42 = S.1 42 := by funext j; rw [hW.fw.1 42 j (by unfold rp182; omega), e42]
    rw [e42] at k2
    have uu := (hU.2 n b' tW).2 (by rw [w42]; exact k2)
    rw [w42] at uu
    obtain ⟨_, _, _, ub, ug, _⟩ := uu
    refine UP e42 k2 q' e (ri181_go e42 q' k2 W hW.fw tW hU hV ?_).1
    rw [rb9 (tk_v_b k2).1] at ub ug
    obtain ⟨f1, f2⟩ := pr_one_f (T := S.1 42) (n := n) (b := b') (A := A')
    have hs := tk_s_le (T := S.1 42) q'.1.2.1
    have hn := q'.1.2.2.1
    have e12 := q'.1.2.2.2.2.1
    rw [e42] at e12
    have q2 := q'.2.1
    rw [e42] at q2
    rw [e12] at hW
    have wn := hW.note q2 (by omega) (by decide)
    unfold rqf
    rw [f1, f2]
    by_cases z : pf A' = 0
    · obtain ⟨h1, h2, _⟩ := q'.2.2.1 z
      have p12 : pic A' = 12 := (n32_eq (by omega) (by decide)).mp (h1.symm.trans ((Classical.not_not.mp c2).trans (show (12 : Int32) = Int32.ofNat 12 from rfl)))
      have w3 : pnote A' true 3 (Int32.ofNat (tk_s (S.1 42) n b')) = (3, Int32.ofNat (tk_s (S.1 42) n b'), A'.2.2) := if_pos ⟨z, rfl⟩
      rw [w3] at wn
      have w17 : W.1 41 17 = 3 := wn.1
      have w18 : W.1 41 18 = Int32.ofNat (tk_s (S.1 42) n b') := (wn.2 (by show ¬ (3 : Int32) = 0; decide)).1
      rw [decide_eq_true (show 12 ≤ pic A' by omega)]
      cases hd : decide (10 ≤ tk_v (S.1 42) n b') with
      | true =>
        have u2 := (ub hd).2.1 (Or.inr (Or.inr ⟨w18.symm, by rw [w17]; decide⟩))
        have p2 : pnote A' true 2 (Int32.ofNat (tk_s (S.1 42) n b')) = (2, Int32.ofNat (tk_s (S.1 42) n b'), A'.2.2) := if_pos ⟨z, rfl⟩
        rw [p2, pnote_ne (show pf (2, Int32.ofNat (tk_s (S.1 42) n b'), A'.2.2) ≠ 0 by show ¬ (2 : Int32) = 0; decide)]
        exact ⟨u2.1, fun _ => ⟨u2.2, _, rfl, by omega⟩⟩
      | false =>
        rw [pnote_f, w3]
        obtain ⟨_, g1, g2⟩ := ug hd
        exact ⟨g1.trans w17, fun _ => ⟨g2.trans w18, _, rfl, by omega⟩⟩
    · rw [pnote_ne z] at wn
      rw [show pnote A' (decide (10 ≤ tk_v (S.1 42) n b')) 2 (Int32.ofNat (tk_s (S.1 42) n b')) = A' from pnote_ne z, pnote_ne z]
      obtain ⟨p0, pq, p2, p3⟩ := q2.2 z
      -- the FAULT stands where it stood
      have wf : W.1 41 17 = pf A' ∧ W.1 41 18 = pp A' := ⟨wn.1, (wn.2 z).1⟩
      cases hd : decide (10 ≤ tk_v (S.1 42) n b') with
      | true =>
        have u2 := (ub hd).2.2 (by
          rw [wf.1, wf.2, p2]
          intro y
          rcases y with y | y | y
          · exact z y
          · rw [n32_lt (by omega) (by omega)] at y; omega
          · have := (n32_eq (by omega) (by omega)).mp y.1; omega)
        exact ⟨u2.1.trans wf.1, fun _ => ⟨u2.2.trans wf.2, pq, p2, by omega⟩⟩
      | false =>
        obtain ⟨_, g1, g2⟩ := ug hd
        exact ⟨g1.trans wf.1, fun _ => ⟨g2.trans wf.2, pq, p2, by omega⟩⟩
  · intro S T hI c0 c1 c2 W hW r U hU cr
    refine ⟨(hI.1.trans ((hW.fw.mono rp182_n).mono rpn_l)).trans ((hU.1.mono rp183_n).mono rpn_l), fun n b k A q => ?_⟩
    obtain ⟨b', k', A', q', e⟩ := hI.2 n b k A q
    have k2 := (q'.1.k (k := 2) (by decide)).mp (Classical.not_not.mp c1)
    have tW : rtok W n b' := q'.1.keep (fun k h1 h2 => hW.fw.1 41 k (by unfold rp182; omega)) (fun i => hW.fw.1 42 i (by unfold rp182; omega)) (by
      have hW' : W = _ := hW
      rw [hW']; split <;> rfl)
    have w42 : W.1 42 = T.1 42 := by funext j; exact hW.fw.1 42 j (by unfold rp182; omega)
    exact absurd (((hU.2 n b' tW).2 (by rw [w42]; exact k2)).1.symm.trans (Classical.not_not.mp cr)) (by decide)
