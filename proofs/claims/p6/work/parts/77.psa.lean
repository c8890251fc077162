/-! TEXTS: what a text tells, line by line: its first FAULT, and (without one) its items, READINGS, NEAR, SEATS, the highest SEAT -/
abbrev pA : Type := Int32 × Int32 × Nat × (Nat → Nat → Int32) × Nat × (Nat → Nat → Int32) × (Nat → Int32) × Int32 × Int32
def pf (A : pA) : Int32 := A.1
def pp (A : pA) : Int32 := A.2.1
def pic (A : pA) : Nat := A.2.2.1
def pit (A : pA) : Nat → Nat → Int32 := A.2.2.2.1
def prc (A : pA) : Nat := A.2.2.2.2.1
def prd (A : pA) : Nat → Nat → Int32 := A.2.2.2.2.2.1
def pnr (A : pA) : Nat → Int32 := A.2.2.2.2.2.2.1
def pst (A : pA) : Int32 := A.2.2.2.2.2.2.2.1
def phi (A : pA) : Int32 := A.2.2.2.2.2.2.2.2
def pnote (A : pA) (c : Bool) (f p : Int32) : pA := if pf A = 0 ∧ c = true then (f, p, A.2.2) else A
def pnl (w : Nat) : Nat := [3, 3, 2, 1, 2, 1, 2, 1, 2, 2, 2, 1, 1].getD w 0
def pmo (w : Nat) : Nat := [10, 16, 0, 0, 50, 50, 50, 8, 8, 8, 8, 8, 8].getD w 0
def pgr (w i : Nat) : Int32 := ex_st 3 (3 * w + i)
def pbad (w i : Nat) (l : Nat → Int32) : Bool := decide (pgr w i < l i) || ((decide (w = 3) && decide (l i < 1)) || ((decide (w = 2) || decide (w = 4)) && (decide (i = 1) && decide (l 1 = l 0))))
def pmx (a b : Int32) : Int32 := if a < b then b else a
/-- a line is kept -/
def pkeep (w : Nat) (l : Nat → Int32) (A : pA) : pA :=
  if w = 0 then (pf A, pp A, pic A + 1, fun k j => if k = pic A then l j else pit A k j, A.2.2.2.2)
  else if w = 1 then (pf A, pp A, pic A, pit A, prc A + 1, fun k j => if k = prc A then l j else prd A k j, A.2.2.2.2.2.2)
  else if w = 2 then (pf A, pp A, pic A, pit A, prc A, prd A, fun k => if k = (l 0).toNatClampNeg then pnr A k ||| (1 <<< (l 1 &&& 31)) else pnr A k, pst A, phi A)
  else if w = 3 then (pf A, pp A, pic A, pit A, prc A, prd A, pnr A, l 0, phi A)
  else (pf A, pp A, pic A + 1, fun k j => if k = pic A then (if j = 0 then (if w < 7 then Int32.ofNat (w - 4) else Int32.ofNat (w - 7)) else l (j - 1)) else pit A k j, prc A, prd A, pnr A, pst A, if w < 7 then (if w = 4 then pmx (pmx (phi A) (l 0)) (l 1) else pmx (phi A) (l 0)) else phi A)
/-- what the class's reader holds -/
def ra (S : ex_S) (A : pA) : Prop := S.1 25 1 = pf A ∧ S.1 25 2 = pp A ∧ (pf A = 0 → S.1 25 4 = Int32.ofNat (pic A) ∧ pic A ≤ 50 ∧ S.1 25 6 = Int32.ofNat (prc A) ∧ prc A ≤ 16 ∧ S.1 25 8 = pst A ∧ S.1 25 9 = phi A ∧ (∀ k j, k < pic A → j < 4 → S.1 26 (4 * k + j) = pit A k j) ∧ (∀ k j, k < prc A → j < 4 → S.1 27 (4 * k + j) = prd A k j) ∧ ∀ k, k < 10 → S.1 28 k = pnr A k)
theorem ra.keep {S S' : ex_S} {A : pA} (h : ra S A) (h5 : ∀ k, S'.1 25 k = S.1 25 k) (h6 : ∀ k, S'.1 26 k = S.1 26 k) (h7 : ∀ k, S'.1 27 k = S.1 27 k) (h8 : ∀ k, S'.1 28 k = S.1 28 k) : ra S' A := by
  obtain ⟨a, b, c⟩ := h
  refine ⟨by rw [h5]; exact a, by rw [h5]; exact b, fun z => ?_⟩
  obtain ⟨c1, c2, c3, c4, c5, c6, c7, c8, c9⟩ := c z
  exact ⟨by rw [h5]; exact c1, c2, by rw [h5]; exact c3, c4, by rw [h5]; exact c5, by rw [h5]; exact c6, fun k j hk hj => by rw [h6]; exact c7 k j hk hj, fun k j hk hj => by rw [h7]; exact c8 k j hk hj, fun k hk => by rw [h8]; exact c9 k hk⟩
/-- noteFault -/
def cc21 (f p : Int32) (S S' : ex_S) : Prop := S' = if S.1 25 1 = 0 then ex_sx (ex_sx S 25 1 f) 25 2 p else S
theorem ec21 : es21 cc21 := by
  refine ev21 ?_ ?_
  · intro f p S c; exact (if_neg c).symm
  · intro f p S c; exact (if_pos (Classical.not_not.mp c)).symm
/-- numbers of 25 but 1, 2 and all else stay -/
theorem cc21.fx {f p : Int32} {S S' : ex_S} (h : cc21 f p S S') : ex_fx (fun a k => a = 25 ∧ (k = 1 ∨ k = 2)) S S' := by
  unfold cc21 at h
  rw [h]; split
  · exact ((ex_fx.refl _ S).sx (by decide)).sx (by decide)
  · exact ex_fx.refl _ S
theorem cc21.ra {f p : Int32} {S S' : ex_S} {A : pA} (h : cc21 f p S S') (r : ra S A) (hf : f ≠ 0) : ra S' (pnote A true f p) := by
  have F := h.fx
  unfold cc21 at h
  unfold pnote
  by_cases h0 : pf A = 0
  · rw [if_pos ⟨h0, rfl⟩]
    rw [if_pos (by rw [r.1]; exact h0)] at h
    subst h
    exact ⟨rfl, rfl, fun z => absurd z hf⟩
  · rw [if_neg (fun z => h0 z.1)]
    rw [if_neg (by rw [r.1]; exact h0)] at h
    rw [h]; exact r
theorem pnote_f (A : pA) (f p : Int32) : pnote A false f p = A := if_neg (fun z => by cases z.2)
def pthere (w : Nat) (A : pA) : Nat := if w = 1 then prc A else pic A
def pmany (w : Nat) (A : pA) : Bool := decide (0 < pmo w ∧ pmo w ≤ pthere w A)
theorem p_mo : ∀ w, w < 13 → ex_st 4 w = Int32.ofNat (pmo w) := by
  intro w h
  have k : ∀ w : Fin 13, ex_st 4 w.val = Int32.ofNat (pmo w.val) := by decide +kernel
  exact k ⟨w, h⟩
theorem p_nl : ∀ w, w < 13 → ex_st 2 w = Int32.ofNat (pnl w) := by
  intro w h
  have k : ∀ w : Fin 13, ex_st 2 w.val = Int32.ofNat (pnl w.val) := by decide +kernel
  exact k ⟨w, h⟩
theorem p_mo50 (w : Nat) : pmo w ≤ 50 := by
  unfold pmo
  match w with
  | 0 => decide
  | 1 => decide
  | 2 => decide
  | 3 => decide
  | 4 => decide
  | 5 => decide
  | 6 => decide
  | 7 => decide
  | 8 => decide
  | 9 => decide
  | 10 => decide
  | 11 => decide
  | 12 => decide
  | n + 13 => show ([] : List Nat).getD n 0 ≤ 50; simp
/-- noteMany -/
def cc38 (w : Int32) (S S' : ex_S) : Prop := ex_fx (fun a k => a = 25 ∧ (k = 1 ∨ k = 2)) S S' ∧ ∀ i A, w = Int32.ofNat i → i < 13 → ra S A → ra S' (pnote A (pmany i A) 3 (S.1 30 3))
theorem cc38_no {w : Int32} {S : ex_S} (h : ∀ i A, w = Int32.ofNat i → i < 13 → ra S A → pf A = 0 → pmany i A = false) : cc38 w S S := by
  refine ⟨ex_fx.refl _ S, fun i A e hi r => ?_⟩
  by_cases h0 : pf A = 0
  · rw [h i A e hi r h0, pnote_f]; exact r
  · unfold pnote; rw [if_neg (fun z => h0 z.1)]; exact r
theorem cc38_yes {w : Int32} {S S' : ex_S} (h21 : cc21 3 (S.1 30 3) S S') (h : ∀ i A, w = Int32.ofNat i → i < 13 → ra S A → pf A = 0 → pmany i A = true) : cc38 w S S' := by
  refine ⟨h21.fx, fun i A e hi r => ?_⟩
  by_cases h0 : pf A = 0
  · rw [h i A e hi r h0]; exact h21.ra r (by decide)
  · have := h21.ra r (by decide)
    unfold pnote at this ⊢
    rw [if_neg (fun z => h0 z.1)] at this ⊢; exact this
theorem ec38 : es38 cc38 := by
  refine ev38 ec21 ?_ ?_ ?_ ?_ ?_ ?_
  · intro w S c1 c2
    refine cc38_no (fun i A e hi r h0 => ?_)
    have := p_mo50 i
    rw [e, n32_tn (by omega), p_mo i hi, show (0 : Int32) = Int32.ofNat 0 from rfl, n32_le (by omega) (by omega)] at c2
    exact decide_eq_false (fun z => by omega)
  · intro w S c1 c2 c3
    refine cc38_no (fun i A e hi r h0 => ?_)
    have := p_mo50 i
    obtain ⟨r1, r2, _⟩ := r.2.2 h0
    rw [e, n32_tn (by omega), p_mo i hi, r1, n32_lt (by omega) (by omega)] at c3
    have h1 : ¬ i = 1 := fun z => c1 (by rw [e, z]; rfl)
    refine decide_eq_false (fun z => ?_)
    unfold pthere at z
    rw [if_neg h1] at z; omega
  · intro w S c1 c2 c3 U hU
    refine cc38_yes hU (fun i A e hi r h0 => ?_)
    have := p_mo50 i
    obtain ⟨r1, r2, _⟩ := r.2.2 h0
    rw [e, n32_tn (by omega), p_mo i hi, show (0 : Int32) = Int32.ofNat 0 from rfl, n32_le (by omega) (by omega)] at c2
    rw [e, n32_tn (by omega), p_mo i hi, r1, n32_lt (by omega) (by omega)] at c3
    have h1 : ¬ i = 1 := fun z => c1 (by rw [e, z]; rfl)
    refine decide_eq_true ⟨by omega, ?_⟩
    unfold pthere
    rw [if_neg h1]; omega
  · intro w S c1 c2
    refine cc38_no (fun i A e hi r h0 => ?_)
    have := p_mo50 i
    rw [e, n32_tn (by omega), p_mo i hi, show (0 : Int32) = Int32.ofNat 0 from rfl, n32_le (by omega) (by omega)] at c2
    exact decide_eq_false (fun z => by omega)
  · intro w S c1 c2 c3
    refine cc38_no (fun i A e hi r h0 => ?_)
    have := p_mo50 i
    obtain ⟨r1, r2, r3, r4, _⟩ := r.2.2 h0
    rw [e, n32_tn (by omega), p_mo i hi, r3, n32_lt (by omega) (by omega)] at c3
    have h1 : i = 1 := by
      rw [e] at c1
      exact (n32_eq (by omega) (by omega)).mp ((Classical.not_not.mp c1).trans (show (1 : Int32) = Int32.ofNat 1 from rfl))
    refine decide_eq_false (fun z => ?_)
    unfold pthere at z
    rw [if_pos h1] at z; omega
  · intro w S c1 c2 c3 U hU
    refine cc38_yes hU (fun i A e hi r h0 => ?_)
    have := p_mo50 i
    obtain ⟨r1, r2, r3, r4, _⟩ := r.2.2 h0
    rw [e, n32_tn (by omega), p_mo i hi, show (0 : Int32) = Int32.ofNat 0 from rfl, n32_le (by omega) (by omega)] at c2
    rw [e, n32_tn (by omega), p_mo i hi, r3, n32_lt (by omega) (by omega)] at c3
    have h1 : i = 1 := by
      rw [e] at c1
      exact (n32_eq (by omega) (by omega)).mp ((Classical.not_not.mp c1).trans (show (1 : Int32) = Int32.ofNat 1 from rfl))
    refine decide_eq_true ⟨by omega, ?_⟩
    unfold pthere
    rw [if_pos h1]; omega
/-- noteNumber -/
def pb39 (w i : Int32) (S : ex_S) : Prop := ¬ (S.1 29 i.toNatClampNeg ≤ ex_st 3 ((w * 3) + i).toNatClampNeg) ∨ (w = 3 ∧ ¬ (1 ≤ S.1 29 i.toNatClampNeg)) ∨ ((w = 2 ∨ w = 4) ∧ i = 1 ∧ S.1 29 1 = S.1 29 0)
def cc39 (w i : Int32) (S S' : ex_S) : Prop := (pb39 w i S → cc21 2 (S.1 30 3) S S') ∧ (¬ pb39 w i S → S' = S)
theorem ec39 : es39 cc39 := by
  refine ev39 ec21 ?_ ?_ ?_ ?_ ?_ ?_ ?_ ?_ ?_ ?_ ?_ ?_ ?_ ?_ ?_ ?_ ?_ ?_ ?_ ?_ ?_ ?_ ?_ ?_ ?_ ?_ ?_ ?_ ?_ ?_ ?_ ?_ ?_ ?_ ?_ ?_ ?_ ?_ ?_ ?_ ?_ ?_
  all_goals (intros; simp_all [cc39, pb39])
  all_goals (intro z; first | exact absurd z (Int32.not_lt.mpr (by assumption)) | exact absurd z (Int32.not_le.mpr (by assumption)))
theorem pb39_iff {w i : Nat} {S : ex_S} (hw : w < 13) (hi : i < 3) : pb39 (Int32.ofNat w) (Int32.ofNat i) S ↔ pbad w i (S.1 29) = true := by
  have e3 : (Int32.ofNat w * 3 + Int32.ofNat i).toNatClampNeg = 3 * w + i := by
    rw [show (3 : Int32) = Int32.ofNat 3 from rfl, ← Int32.ofNat_mul, n32_add, n32_tn (by omega)]; omega
  unfold pb39 pbad pgr
  rw [e3, n32_tn (by omega), show (3 : Int32) = Int32.ofNat 3 from rfl, show (2 : Int32) = Int32.ofNat 2 from rfl, show (4 : Int32) = Int32.ofNat 4 from rfl, show (1 : Int32) = Int32.ofNat 1 from rfl, n32_eq (by omega) (by omega), n32_eq (by omega) (by omega), n32_eq (by omega) (by omega), n32_eq (by omega) (by omega)]
  simp only [Bool.or_eq_true, Bool.and_eq_true, decide_eq_true_eq, Int32.not_le]
theorem cc39.fx {w i : Int32} {S S' : ex_S} (h : cc39 w i S S') : ex_fx (fun a k => a = 25 ∧ (k = 1 ∨ k = 2)) S S' := by
  by_cases hb : pb39 w i S
  · exact (h.1 hb).fx
  · rw [h.2 hb]; exact ex_fx.refl _ S
theorem cc39.ra {w i : Nat} {S S' : ex_S} {A : pA} (h : cc39 (Int32.ofNat w) (Int32.ofNat i) S S') (hw : w < 13) (hi : i < 3) (r : ra S A) : ra S' (pnote A (pbad w i (S.1 29)) 2 (S.1 30 3)) := by
  cases hb : pbad w i (S.1 29) with
  | true => exact (h.1 ((pb39_iff hw hi).mpr hb)).ra r (by decide)
  | false =>
    rw [pnote_f, h.2 (fun z => by rw [(pb39_iff hw hi).mp z] at hb; cases hb)]; exact r
