theorem ra.congr {S : ex_S} {A B : pA} (h : ra S A) (e1 : pf B = pf A) (e2 : pp B = pp A) (e3 : pic B = pic A) (e4 : prc B = prc A) (e5 : pst B = pst A) (e6 : phi B = phi A) (e7 : ∀ k j, j < 4 → pit B k j = pit A k j) (e8 : ∀ k j, j < 4 → prd B k j = prd A k j) (e9 : ∀ k, pnr B k = pnr A k) : ra S B := by
  obtain ⟨a, b, c⟩ := h
  refine ⟨by rw [e1]; exact a, by rw [e2]; exact b, fun z => ?_⟩
  obtain ⟨c1, c2, c3, c4, c5, c6, c7, c8, c9⟩ := c (e1 ▸ z)
  exact ⟨by rw [e3]; exact c1, by rw [e3]; exact c2, by rw [e4]; exact c3, by rw [e4]; exact c4, by rw [e5]; exact c5, by rw [e6]; exact c6, fun k j hk hj => by rw [e7 k j hj]; exact c7 k j (e3 ▸ hk) hj, fun k j hk hj => by rw [e8 k j hj]; exact c8 k j (e4 ▸ hk) hj, fun k hk => by rw [e9]; exact c9 k hk⟩
theorem pkeep_0 {l : Nat → Int32} {A : pA} : pkeep 0 l A = (pf A, pp A, pic A + 1, fun k j => if k = pic A then l j else pit A k j, A.2.2.2.2) := if_pos rfl
theorem pkeep_1 {l : Nat → Int32} {A : pA} : pkeep 1 l A = (pf A, pp A, pic A, pit A, prc A + 1, fun k j => if k = prc A then l j else prd A k j, A.2.2.2.2.2.2) := by
  unfold pkeep; rw [if_neg (by decide), if_pos rfl]
theorem pkeep_2 {l : Nat → Int32} {A : pA} : pkeep 2 l A = (pf A, pp A, pic A, pit A, prc A, prd A, fun k => if k = (l 0).toNatClampNeg then pnr A k ||| (1 <<< (l 1 &&& 31)) else pnr A k, pst A, phi A) := by
  unfold pkeep; rw [if_neg (by decide), if_neg (by decide), if_pos rfl]
theorem pkeep_3 {l : Nat → Int32} {A : pA} : pkeep 3 l A = (pf A, pp A, pic A, pit A, prc A, prd A, pnr A, l 0, phi A) := by
  unfold pkeep; rw [if_neg (by decide), if_neg (by decide), if_neg (by decide), if_pos rfl]
def pkh (w : Nat) (l : Nat → Int32) (A : pA) : Int32 := if w < 7 then (if w = 4 then pmx (pmx (phi A) (l 0)) (l 1) else pmx (phi A) (l 0)) else phi A
def pkt (w : Nat) : Int32 := if w < 7 then Int32.ofNat (w - 4) else Int32.ofNat (w - 7)
theorem pkeep_4 {w : Nat} {l : Nat → Int32} {A : pA} (hw : 4 ≤ w) : pkeep w l A = (pf A, pp A, pic A + 1, fun k j => if k = pic A then (if j = 0 then pkt w else l (j - 1)) else pit A k j, prc A, prd A, pnr A, pst A, pkh w l A) := by
  unfold pkeep; rw [if_neg (by omega), if_neg (by omega), if_neg (by omega), if_neg (by omega)]; rfl
/-- lines that are alike in their four numbers are kept alike -/
theorem ra.lcongr {S : ex_S} {A : pA} {w : Nat} {l l' : Nat → Int32} (h : ra S (pkeep w l A)) (e : ∀ j, j < 4 → l' j = l j) : ra S (pkeep w l' A) := by
  by_cases hw : 4 ≤ w
  · rw [pkeep_4 hw] at h ⊢
    have eh : pkh w l' A = pkh w l A := by unfold pkh; rw [e 0 (by decide), e 1 (by decide)]
    rw [eh]
    refine h.congr rfl rfl rfl rfl rfl rfl (fun k j hj => ?_) (fun _ _ _ => rfl) (fun _ => rfl)
    show (if k = pic A then (if j = 0 then pkt w else l' (j - 1)) else pit A k j) = if k = pic A then (if j = 0 then pkt w else l (j - 1)) else pit A k j
    rw [e (j - 1) (by omega)]
  · rcases (show w = 0 ∨ w = 1 ∨ w = 2 ∨ w = 3 by omega) with z | z | z | z <;> subst z
    · rw [pkeep_0] at h ⊢
      refine h.congr rfl rfl rfl rfl rfl rfl (fun k j hj => ?_) (fun _ _ _ => rfl) (fun _ => rfl)
      show (if k = pic A then l' j else pit A k j) = if k = pic A then l j else pit A k j
      rw [e j hj]
    · rw [pkeep_1] at h ⊢
      refine h.congr rfl rfl rfl rfl rfl rfl (fun _ _ _ => rfl) (fun k j hj => ?_) (fun _ => rfl)
      show (if k = prc A then l' j else prd A k j) = if k = prc A then l j else prd A k j
      rw [e j hj]
    · rw [pkeep_2] at h ⊢
      rw [e 0 (by decide), e 1 (by decide)]; exact h
    · rw [pkeep_3] at h ⊢
      rw [e 0 (by decide)]; exact h
theorem pl_fy {T : Nat → Int32} {n c j b : Nat} (hj : j < c) (hk : tk_k T n (nb T n b j) = 2) : pl_f T n (c - j) (nb T n b j) = pl_f T n (c - (j + 1)) (nb T n b (j + 1)) := by
  rw [show c - j = (c - (j + 1)) + 1 by omega]
  exact if_pos hk
theorem pl_fn {T : Nat → Int32} {n c j b : Nat} (hj : j < c) (hk : ¬ tk_k T n (nb T n b j) = 2) : pl_f T n (c - j) (nb T n b j) = some (tk_s T n (nb T n b j)) := by
  rw [show c - j = (c - (j + 1)) + 1 by omega]
  exact if_neg hk
theorem pbad_c {w i : Nat} {l l' : Nat → Int32} (h : ∀ k, k ≤ i → l' k = l k) : pbad w i l' = pbad w i l := by
  unfold pbad
  by_cases hi : i = 1
  · subst hi; rw [h 0 (by decide), h 1 (by decide)]
  · rw [h i (Nat.le_refl _), decide_eq_false hi, Bool.false_and, Bool.false_and]
/-- the reader behind a token: the tape, the reader's facts -/
theorem cc37_tok {S T U : ex_S} {n b : Nat} (F : ex_fx pP37 S T) (hU : cc16 T U) (hb : tc_at T n b) : ctok U n b ∧ U.1 18 = S.1 18 ∧ ex_fx pP37 S U ∧ ∀ k, U.1 29 k = T.1 29 k := by
  have e : T.1 18 = S.1 18 := by funext j; exact F.1 18 j (by unfold pP37; omega)
  exact ⟨hU.tok hb, hU.t18.trans e, F.trans (hU.1.mono (fun a k z => by unfold pP37; omega)), fun k => hU.1.1 29 k (by omega)⟩
/-- the line's end -/
theorem cc37_end {S U V : ex_S} {w : Int32} {i n b0 b : Nat} {A : pA} (q : pq37 S i n b0 A) (e : w = Int32.ofNat i) (hU18 : U.1 18 = S.1 18) (tU : ctok U n b) (c : U.1 30 4 = 3) (hV : cc40 w U V) (rU : ra U (pan (S.1 18) n i (tk_e (S.1 18) n b0) (pnote A (pmany i A) 3 (Int32.ofNat (tk_s (S.1 18) n b0))) (pnl i))) (hb : pl_end (S.1 18) n i (tk_e (S.1 18) n b0) = tk_e (S.1 18) n b) (hl : ∀ k, k < 4 → U.1 29 k = pll (S.1 18) n i (tk_e (S.1 18) n b0) k) (hf : pl_f (S.1 18) n (pnl i) (tk_e (S.1 18) n b0) = none) (ht : pl_t (S.1 18) n i (nb (S.1 18) n (tk_e (S.1 18) n b0) (pnl i)) = pl_s (S.1 18) n b) : (∀ p, pl_fail (S.1 18) n i (tk_e (S.1 18) n b0) = some p → (1 : Int32) = 0 ∧ V.1 30 3 = Int32.ofNat p) ∧ (pl_fail (S.1 18) n i (tk_e (S.1 18) n b0) = none → (1 : Int32) = 1 ∧ tc_at V n (pl_end (S.1 18) n i (tk_e (S.1 18) n b0)) ∧ ra V (pline (S.1 18) n i (tk_s (S.1 18) n b0) (tk_e (S.1 18) n b0) A)) := by
  have k3 : tk_k (S.1 18) n b = 3 := by
    have h4 := tU.2.2.2.2.2.1
    have := tk_k4 (T := U.1 18) (n := n) (b := b)
    rw [c] at h4
    rw [← hU18]
    exact ((n32_eq (by decide) (by omega)).mp ((show (Int32.ofNat 3 : Int32) = 3 from rfl).trans h4)).symm
  have no : pl_fail (S.1 18) n i (tk_e (S.1 18) n b0) = none := by
    unfold pl_fail; rw [hf]; show pl_t _ _ _ _ = none
    rw [ht]; unfold pl_s; rw [if_pos k3]
  refine ⟨fun p z => (by rw [no] at z; cases z), fun _ => ⟨rfl, ?_, ?_⟩⟩
  · have t1 := tU.at
    rw [hU18] at t1
    refine ⟨(hV.1.1 30 1 (by unfold pP40; omega)).trans t1.1, ?_, by rw [hb]; exact t1.2.2.1, t1.2.2.2⟩
    rw [hV.1.1 30 2 (by unfold pP40; omega), t1.2.1, hb]
  · obtain ⟨qw, qt, qr, qk, ql⟩ := q
    have hr := hV.2 i _ e qw rU (fun z => pan_room qw (fun z0 => by
      obtain ⟨_, r2, _, r4, _⟩ := qr.2.2 z0; exact ⟨r2, r4⟩) z)
    unfold pline
    split at hr
    · rename_i z; rw [if_pos z]; exact hr.lcongr (fun k hk => (hl k hk).symm)
    · rename_i z; rw [if_neg z]; exact hr
theorem cc37_bad {S U : ex_S} {i n b0 b : Nat} {v : Int32} (hv : v = 0) (hU18 : U.1 18 = S.1 18) (tU : ctok U n b) (hf : pl_fail (S.1 18) n i (tk_e (S.1 18) n b0) = some (tk_s (S.1 18) n b)) {A : pA} : (∀ p, pl_fail (S.1 18) n i (tk_e (S.1 18) n b0) = some p → v = 0 ∧ U.1 30 3 = Int32.ofNat p) ∧ (pl_fail (S.1 18) n i (tk_e (S.1 18) n b0) = none → v = 1 ∧ tc_at U n (pl_end (S.1 18) n i (tk_e (S.1 18) n b0)) ∧ ra U (pline (S.1 18) n i (tk_s (S.1 18) n b0) (tk_e (S.1 18) n b0) A)) := by
  refine ⟨fun p z => ?_, fun z => (by rw [hf] at z; cases z)⟩
  rw [hf] at z
  cases z
  refine ⟨hv, ?_⟩
  rw [tU.2.2.2.1, hU18]
theorem ec37 : es37 cc37 := by
  refine ev37 (I22 := ci37) ec13 ec16 ec24 ec38 ec39 ec40 ?_ ?_ ?_ ?_ ?_ ?_ ?_ ?_ ?_
  · intro w S c U hU V hV
    have FU : ex_fx pP37 S U := hU.1.mono (fun a k z => by unfold pP37; omega)
    have FV : ex_fx pP37 S V := FU.trans (hV.1.mono (fun a k z => by unfold pP37; omega))
    refine ⟨FV, c, fun i n b0 A e q => ?_⟩
    obtain ⟨qw, qt, qr, qk, ql⟩ := q
    have v1 := hV.2 4 (by rw [hU.1.2]; exact ql) (by decide)
    have e25 : ∀ a k, a ≠ 29 → V.1 a k = U.1 a k := fun a k h => hV.1.1 a k h
    refine ⟨0, Nat.zero_le _, rfl, ?_, rfl, fun k hk => absurd hk (by omega), fun k _ hk => by rw [v1, if_pos hk], ?_⟩
    · have t := qt.at
      exact ⟨(FV.1 30 1 (by unfold pP37; omega)).trans t.1, by rw [e25 30 2 (by decide), hU.1.1 30 2 (by omega)]; exact t.2.1, t.2.2.1, t.2.2.2⟩
    · have r := hU.2 i A e qw qr
      rw [qt.2.2.2.1] at r
      exact r.keep (fun k => e25 25 k (by decide)) (fun k => e25 26 k (by decide)) (fun k => e25 27 k (by decide)) (fun k => e25 28 k (by decide))
  · intro w S c
    have c' := Classical.not_not.mp c
    exact ⟨ex_fx.refl _ S, fun _ => ⟨rfl, rfl⟩, fun i n b0 A e q => absurd (e.symm.trans c') (by
      intro z
      have := congrArg Int32.toInt z
      rw [n32_i (by have := q.1; omega)] at this
      have e1 : (-1 : Int32).toInt = -1 := rfl
      omega)⟩
  · intro w S x T hI c1 c2 U hU c3 V hV
    obtain ⟨F, hw, hI⟩ := hI
    refine ⟨(F.trans (hU.1.mono (fun a k z => by unfold pP37; omega))).trans (hV.1.mono (fun a k z => by unfold pP40 at z; unfold pP37; omega)), fun z => absurd z hw, fun i n b0 A e q => ?_⟩
    obtain ⟨j, j1, j2, j3, j4, j5, j6, j7⟩ := hI i n b0 A e q
    have p3 := pnl3 q.1
    have hi := q.1
    rw [e, n32_tn (by omega), p_nl i q.1, j2, n32_le (by omega) (by omega)] at c1
    have ej : j = pnl i := by omega
    subst ej
    obtain ⟨tU, u18, FU, u29⟩ := cc37_tok F hU j3
    have i0 : ¬ i = 0 := fun z => c2 (by rw [e, z]; rfl)
    refine cc37_end q e u18 tU c3 hV (hU.ra j7) ?_ (fun k hk => ?_) ?_ ?_
    · unfold pl_end; rw [if_neg i0]
    · rw [u29]; unfold pll
      by_cases hkk : k < pnl i
      · rw [if_pos hkk]; exact j5 k hkk
      · rw [if_neg hkk, if_neg (fun z => i0 z.1)]; exact j6 k (by omega) hk
    · rw [← j4, Nat.sub_self]; rfl
    · unfold pl_t; rw [if_neg i0]
  · intro w S x T hI c1 c2 U hU c3
    obtain ⟨F, hw, hI⟩ := hI
    refine ⟨F.trans (hU.1.mono (fun a k z => by unfold pP37; omega)), fun z => absurd z hw, fun i n b0 A e q => ?_⟩
    obtain ⟨j, j1, j2, j3, j4, j5, j6, j7⟩ := hI i n b0 A e q
    have p3 := pnl3 q.1
    have hi := q.1
    rw [e, n32_tn (by omega), p_nl i q.1, j2, n32_le (by omega) (by omega)] at c1
    have ej : j = pnl i := by omega
    subst ej
    obtain ⟨tU, u18, FU, u29⟩ := cc37_tok F hU j3
    have i0 : ¬ i = 0 := fun z => c2 (by rw [e, z]; rfl)
    refine cc37_bad rfl u18 tU ?_
    unfold pl_fail
    rw [← j4, Nat.sub_self]
    show pl_t _ _ _ _ = _
    unfold pl_t pl_s
    rw [if_neg i0, if_neg]
    intro z
    rw [tU.2.2.2.2.2.1, u18, z] at c3
    exact c3 rfl
  · intro w S x T hI c1 c2 U hU r U2 hU2 c3 U3 hU3 c4 V hV
    obtain ⟨F, hw, hI⟩ := hI
    obtain ⟨e22, hU2⟩ : U2 = U ∧ _ := ⟨hU2.1, hU2⟩
    subst e22
    have F2 : ex_fx pP37 S (ex_sx U2 29 3 r) := (F.trans (hU.1.mono (fun a k z => by unfold pP37; omega))).sx (by unfold pP37; omega)
    have F3 : ex_fx pP37 S U3 := F2.trans (hU3.1.mono (fun a k z => by unfold pP37; omega))
    refine ⟨F3.trans (hV.1.mono (fun a k z => by unfold pP40 at z; unfold pP37; omega)), fun z => absurd z hw, fun i n b0 A e q => ?_⟩
    obtain ⟨j, j1, j2, j3, j4, j5, j6, j7⟩ := hI i n b0 A e q
    have p3 := pnl3 q.1
    have hi := q.1
    rw [e, n32_tn (by omega), p_nl i q.1, j2, n32_le (by omega) (by omega)] at c1
    have ej : j = pnl i := by omega
    subst ej
    obtain ⟨tU, u18, FU, u29⟩ := cc37_tok F hU j3
    have i0 : i = 0 := n32_w q.1 (by decide) (e.symm.trans ((Classical.not_not.mp c2).trans (show (0 : Int32) = Int32.ofNat 0 from rfl)))
    have kvU : ex_KV U2 := KV_fx FU (fun a k z => by unfold pP37 at z; omega) q.2.2.2.1
    have er := hU2.ws kvU (by decide) (by decide) tU
    rw [u18] at er
    have tU2 : tc_at (ex_sx U2 29 3 r) n (tk_e (S.1 18) n (nb (S.1 18) n (tk_e (S.1 18) n b0) (pnl i))) := by
      have t := tU.at
      rw [u18] at t
      exact t
    have s18 : (ex_sx U2 29 3 r).1 18 = S.1 18 := by funext k; exact F2.1 18 k (by unfold pP37; omega)
    have t3 := hU3.tok tU2
    have e3 : U3.1 18 = S.1 18 := hU3.t18.trans s18
    have rU : ra (ex_sx U2 29 3 r) (pan (S.1 18) n i (tk_e (S.1 18) n b0) (pnote A (pmany i A) 3 (Int32.ofNat (tk_s (S.1 18) n b0))) (pnl i)) := (hU.ra j7).keep (fun _ => rfl) (fun _ => rfl) (fun _ => rfl) (fun _ => rfl)
    refine cc37_end q e e3 t3 c4 hV (hU3.ra rU) ?_ (fun k hk => ?_) ?_ ?_
    · unfold pl_end; rw [if_pos i0]
    · rw [hU3.1.1 29 k (by omega), ex_sx_at]
      unfold pll
      have pn : pnl i = 3 := by rw [i0]; rfl
      by_cases hkk : k < pnl i
      · rw [if_neg (by omega), if_pos hkk, u29]; exact j5 k hkk
      · have k3 : k = 3 := by omega
        rw [if_pos ⟨rfl, k3⟩, if_neg hkk, if_pos ⟨i0, k3⟩, er, pn]
    · rw [← j4, Nat.sub_self]; rfl
    · unfold pl_t; rw [if_pos i0, if_neg (by rw [← er]; exact c3)]
  · intro w S x T hI c1 c2 U hU r U2 hU2 c3 U3 hU3 c4
    obtain ⟨F, hw, hI⟩ := hI
    obtain ⟨e22, hU2⟩ : U2 = U ∧ _ := ⟨hU2.1, hU2⟩
    subst e22
    have F2 : ex_fx pP37 S (ex_sx U2 29 3 r) := (F.trans (hU.1.mono (fun a k z => by unfold pP37; omega))).sx (by unfold pP37; omega)
    have F3 : ex_fx pP37 S U3 := F2.trans (hU3.1.mono (fun a k z => by unfold pP37; omega))
    refine ⟨F3, fun z => absurd z hw, fun i n b0 A e q => ?_⟩
    obtain ⟨j, j1, j2, j3, j4, j5, j6, j7⟩ := hI i n b0 A e q
    have p3 := pnl3 q.1
    have hi := q.1
    rw [e, n32_tn (by omega), p_nl i q.1, j2, n32_le (by omega) (by omega)] at c1
    have ej : j = pnl i := by omega
    subst ej
    obtain ⟨tU, u18, FU, u29⟩ := cc37_tok F hU j3
    have i0 : i = 0 := n32_w q.1 (by decide) (e.symm.trans ((Classical.not_not.mp c2).trans (show (0 : Int32) = Int32.ofNat 0 from rfl)))
    have kvU : ex_KV U2 := KV_fx FU (fun a k z => by unfold pP37 at z; omega) q.2.2.2.1
    have er := hU2.ws kvU (by decide) (by decide) tU
    rw [u18] at er
    have tU2 : tc_at (ex_sx U2 29 3 r) n (tk_e (S.1 18) n (nb (S.1 18) n (tk_e (S.1 18) n b0) (pnl i))) := by
      have t := tU.at
      rw [u18] at t
      exact t
    have s18 : (ex_sx U2 29 3 r).1 18 = S.1 18 := by funext k; exact F2.1 18 k (by unfold pP37; omega)
    have t3 := hU3.tok tU2
    have e3 : U3.1 18 = S.1 18 := hU3.t18.trans s18
    refine cc37_bad rfl e3 t3 ?_
    unfold pl_fail
    rw [← j4, Nat.sub_self]
    show pl_t _ _ _ _ = _
    unfold pl_t pl_s
    rw [if_pos i0, if_neg (by rw [← er]; exact c3), if_neg]
    intro z
    rw [t3.2.2.2.2.2.1, e3, z] at c4
    exact c4 rfl
  · intro w S x T hI c1 c2 U hU r U2 hU2 c3
    obtain ⟨F, hw, hI⟩ := hI
    obtain ⟨e22, hU2⟩ : U2 = U ∧ _ := ⟨hU2.1, hU2⟩
    subst e22
    have F2 : ex_fx pP37 S (ex_sx U2 29 3 r) := (F.trans (hU.1.mono (fun a k z => by unfold pP37; omega))).sx (by unfold pP37; omega)
    refine ⟨F2, fun z => absurd z hw, fun i n b0 A e q => ?_⟩
    obtain ⟨j, j1, j2, j3, j4, j5, j6, j7⟩ := hI i n b0 A e q
    have p3 := pnl3 q.1
    have hi := q.1
    rw [e, n32_tn (by omega), p_nl i q.1, j2, n32_le (by omega) (by omega)] at c1
    have ej : j = pnl i := by omega
    subst ej
    obtain ⟨tU, u18, FU, u29⟩ := cc37_tok F hU j3
    have i0 : i = 0 := n32_w q.1 (by decide) (e.symm.trans ((Classical.not_not.mp c2).trans (show (0 : Int32) = Int32.ofNat 0 from rfl)))
    have kvU : ex_KV U2 := KV_fx FU (fun a k z => by unfold pP37 at z; omega) q.2.2.2.1
    have er := hU2.ws kvU (by decide) (by decide) tU
    rw [u18] at er
    have t2 : ctok (ex_sx U2 29 3 r) n (nb (S.1 18) n (tk_e (S.1 18) n b0) (pnl i)) := tU
    have s18 : (ex_sx U2 29 3 r).1 18 = S.1 18 := by funext k; exact F2.1 18 k (by unfold pP37; omega)
    refine cc37_bad rfl s18 t2 ?_
    unfold pl_fail
    rw [← j4, Nat.sub_self]
    show pl_t _ _ _ _ = _
    unfold pl_t
    rw [if_pos i0, if_pos (by rw [← er]; exact Classical.not_not.mp c3)]
  · intro w S x T hI c1 U hU c2 V hV
    obtain ⟨F, hw, hI⟩ := hI
    have F1 : ex_fx pP37 S (ex_sx U 29 x.toNatClampNeg (U.1 30 5)) := (F.trans (hU.1.mono (fun a k z => by unfold pP37; omega))).sx (by unfold pP37; omega)
    have F2 : ex_fx pP37 S V := F1.trans (hV.fx.mono (fun a k z => by unfold pP37; omega))
    refine ⟨F2, hw, fun i n b0 A e q => ?_⟩
    obtain ⟨j, j1, j2, j3, j4, j5, j6, j7⟩ := hI i n b0 A e q
    have p3 := pnl3 q.1
    have hi := q.1
    rw [e, n32_tn (by omega), p_nl i q.1, j2, n32_le (by omega) (by omega)] at c1
    obtain ⟨tU, u18, FU, u29⟩ := cc37_tok F hU j3
    have k2 : tk_k (S.1 18) n (nb (S.1 18) n (tk_e (S.1 18) n b0) j) = 2 := by
      have h4 := tU.2.2.2.2.2.1
      have := tk_k4 (T := S.1 18) (n := n) (b := nb (S.1 18) n (tk_e (S.1 18) n b0) j)
      rw [c2, u18] at h4
      exact ((n32_eq (by decide) (by omega)).mp ((show (Int32.ofNat 2 : Int32) = 2 from rfl).trans h4)).symm
    have ev : U.1 30 5 = tk_v (S.1 18) n (nb (S.1 18) n (tk_e (S.1 18) n b0) j) := by
      have := tU.2.2.2.2.2.2 (by rw [u18]; exact k2)
      rw [u18] at this; exact this
    have v29 : ∀ k, V.1 29 k = if k = j then tk_v (S.1 18) n (nb (S.1 18) n (tk_e (S.1 18) n b0) j) else T.1 29 k := by
      intro k
      rw [hV.fx.1 29 k (by omega), ex_sx_at, j2, n32_tn (by omega)]
      by_cases hk : k = j
      · rw [if_pos ⟨rfl, hk⟩, if_pos hk, ev]
      · rw [if_neg (fun z => hk z.2), if_neg hk, u29]
    refine ⟨j + 1, by omega, by rw [j2, n32_s], ?_, ?_, fun k hk => ?_, fun k hk hk4 => ?_, ?_⟩
    · have t := tU.at
      rw [u18] at t
      exact ⟨(F2.1 30 1 (by unfold pP37; omega)).trans ((F.1 30 1 (by unfold pP37; omega)).symm.trans j3.1), by rw [hV.fx.1 30 2 (by omega), ex_sx_ne (by omega)]; exact t.2.1, t.2.2.1, t.2.2.2⟩
    · rw [← j4, pl_fy (by omega) k2]
    · rw [v29]
      by_cases hkj : k = j
      · rw [if_pos hkj, hkj]
      · rw [if_neg hkj]; exact j5 k (by omega)
    · rw [v29, if_neg (by omega)]; exact j6 k (by omega) hk4
    · have hV' := hV
      rw [e, j2] at hV'
      have rU : ra (ex_sx U 29 x.toNatClampNeg (U.1 30 5)) (pan (S.1 18) n i (tk_e (S.1 18) n b0) (pnote A (pmany i A) 3 (Int32.ofNat (tk_s (S.1 18) n b0))) j) := (hU.ra j7).keep (fun k => ex_sx_ne (by omega)) (fun k => ex_sx_ne (by omega)) (fun k => ex_sx_ne (by omega)) (fun k => ex_sx_ne (by omega))
      rw [← j2] at hV'
      have r := cc39.ra (w := i) (i := j) (by rw [← j2]; exact hV') q.1 (by omega) rU
      have es : (ex_sx U 29 x.toNatClampNeg (U.1 30 5)).1 30 3 = Int32.ofNat (tk_s (S.1 18) n (nb (S.1 18) n (tk_e (S.1 18) n b0) j)) := by
        rw [ex_sx_ne (by omega), tU.2.2.2.1, u18]
      have eb : pbad i j ((ex_sx U 29 x.toNatClampNeg (U.1 30 5)).1 29) = pbad i j (pll (S.1 18) n i (tk_e (S.1 18) n b0)) := by
        refine pbad_c (fun k hk => ?_)
        have ek : pll (S.1 18) n i (tk_e (S.1 18) n b0) k = tk_v (S.1 18) n (nb (S.1 18) n (tk_e (S.1 18) n b0) k) := by unfold pll; rw [if_pos (by omega)]
        rw [ek, ← hV.fx.1 29 k (by omega), v29]
        by_cases hkj : k = j
        · rw [if_pos hkj, hkj]
        · rw [if_neg hkj]; exact j5 k (by omega)
      rw [es, eb] at r
      exact r
  · intro w S x T hI c1 U hU c2
    obtain ⟨F, hw, hI⟩ := hI
    refine ⟨F.trans (hU.1.mono (fun a k z => by unfold pP37; omega)), fun z => absurd z hw, fun i n b0 A e q => ?_⟩
    obtain ⟨j, j1, j2, j3, j4, j5, j6, j7⟩ := hI i n b0 A e q
    have p3 := pnl3 q.1
    have hi := q.1
    rw [e, n32_tn (by omega), p_nl i q.1, j2, n32_le (by omega) (by omega)] at c1
    obtain ⟨tU, u18, FU, u29⟩ := cc37_tok F hU j3
    refine cc37_bad rfl u18 tU ?_
    unfold pl_fail
    rw [← j4, pl_fn (by omega) (fun z => c2 (by rw [tU.2.2.2.2.2.1, u18, z]; rfl))]
