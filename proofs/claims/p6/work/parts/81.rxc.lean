def pl_pre (T : Nat → Int32) (n w b : Nat) : Option Nat := match pl_f T n (pnl w) b with | some p => some p | none => if w = 0 then (if pws 10 T n (nb T n b 3) = -1 then some (tk_s T n (nb T n b 3)) else none) else none
def bst (T : Nat → Int32) (n w b : Nat) : Nat := if w = 0 then tk_e T n (nb T n b 3) else nb T n b (pnl w)
theorem pl_pre_s {T : Nat → Int32} {n w b p : Nat} (h : pl_f T n (pnl w) b = some p) : pl_pre T n w b = some p := by unfold pl_pre; rw [h]
theorem pl_pre_n {T : Nat → Int32} {n w b : Nat} (h : pl_f T n (pnl w) b = none) (h0 : w ≠ 0) : pl_pre T n w b = none := by unfold pl_pre; rw [h]; exact if_neg h0
theorem pl_fail_s {T : Nat → Int32} {n w b p : Nat} (h : pl_pre T n w b = some p) : pl_fail T n w b = some p := by
  unfold pl_pre at h
  unfold pl_fail
  cases hf : pl_f T n (pnl w) b with
  | some q => rw [hf] at h; exact h
  | none =>
    rw [hf] at h
    show pl_t T n w (nb T n b (pnl w)) = some p
    have h' : (if w = 0 then (if pws 10 T n (nb T n b 3) = -1 then some (tk_s T n (nb T n b 3)) else none) else none) = some p := h
    split at h'
    · rename_i w0
      split at h'
      · rename_i e
        unfold pl_t
        subst w0
        rw [if_pos rfl]
        have e3 : pnl 0 = 3 := rfl
        rw [e3, if_pos e]; exact h'
      · cases h'
    · cases h'
theorem pl_fail_n {T : Nat → Int32} {n w b : Nat} (h : pl_pre T n w b = none) : pl_fail T n w b = pl_s T n (bst T n w b) := by
  unfold pl_pre at h
  unfold pl_fail
  cases hf : pl_f T n (pnl w) b with
  | some q => rw [hf] at h; cases h
  | none =>
    rw [hf] at h
    show pl_t T n w (nb T n b (pnl w)) = _
    have h' : (if w = 0 then (if pws 10 T n (nb T n b 3) = -1 then some (tk_s T n (nb T n b 3)) else none) else none) = none := h
    unfold pl_t bst
    split at h'
    · rename_i w0
      subst w0
      rw [if_pos rfl, if_pos rfl]
      have e3 : pnl 0 = 3 := rfl
      rw [e3]
      split at h'
      · cases h'
      · rename_i e; rw [if_neg e]
    · rename_i w0; rw [if_neg w0, if_neg w0]
theorem pl_end_bst {T : Nat → Int32} {n w b : Nat} : pl_end T n w b = tk_e T n (bst T n w b) := by
  unfold pl_end bst
  by_cases h : w = 0
  · subst h; rw [if_pos rfl, if_pos rfl]; rfl
  · rw [if_neg h, if_neg h]
/-- what the reference's told row holds, sort by sort -/
def rqc0 (S : ex_S) (A : pA) : Prop := S.1 51 0 = Int32.ofNat (pic A) ∧ pic A ≤ 10 ∧ S.1 51 1 = Int32.ofNat (prc A) ∧ prc A ≤ 16 ∧ (∀ k j, k < pic A → j < 4 → S.1 51 (2 + 4 * k + j) = pit A k j) ∧ (∀ k j, k < prc A → j < 3 → S.1 51 (42 + 3 * k + j) = prd A k j) ∧ ∀ k, k < 10 → S.1 51 (90 + k) = pnr A k
def rqc2 (S : ex_S) (A : pA) : Prop := S.1 51 0 = pst A ∧ S.1 51 1 = Int32.ofNat (pic A) ∧ pic A ≤ 50 ∧ S.1 41 21 = phi A ∧ ∀ k j, k < pic A → j < 3 → S.1 51 (2 + 3 * k + j) = pit A k j
def rqc3 (S : ex_S) (A : pA) : Prop := S.1 51 0 = Int32.ofNat (pic A) ∧ pic A ≤ 8 ∧ ∀ k j, k < pic A → j < 3 → S.1 51 (1 + 3 * k + j) = pit A k j
/-- what a line leaves alone -/
def rpn (a k : Nat) : Prop := (a = 41 ∧ 10 ≤ k ∧ k ≤ 22 ∧ k ≠ 11 ∧ k ≠ 21) ∨ a = 52
def rpl (a k : Nat) : Prop := (a = 41 ∧ 10 ≤ k ∧ k ≤ 22 ∧ k ≠ 11) ∨ a = 52 ∨ a = 51
theorem rpn_l : ∀ a k, rpn a k → rpl a k := fun a k z => by unfold rpn at z; unfold rpl; omega
theorem rp179_n : ∀ a k, rp179 a k → rpn a k := fun a k z => by unfold rp179 at z; unfold rpn; omega
theorem rp182_n : ∀ a k, rp182 a k → rpn a k := fun a k z => by unfold rp182 at z; unfold rpn; omega
theorem rp183_n : ∀ a k, rp183 a k → rpn a k := fun a k z => by unfold rp183 at z; unfold rpn; omega
theorem rp188_n : ∀ a k, rp188 a k → rpn a k := fun a k z => by unfold rp188 at z; unfold rpn; omega
theorem fw42 {S T : ex_S} (F : ex_fw rpn S T) : T.1 42 = S.1 42 := by funext j; exact F.1 42 j (by unfold rpn; omega)
/-- what a line is asked -/
def rql (w64 : Int64) (at_ : Int32) (S : ex_S) (n b : Nat) (A : pA) : Prop := rtok S n b ∧ at_ = Int32.ofNat (tk_s (S.1 42) n b) ∧ w64 = rwd (S.1 42) n b ∧ S.1 41 22 = 1 ∧ rqf S A (tk_s (S.1 42) n b)
/-- and answers; R: what is told -/
def rcl (sort : Int32) (R : ex_S → pA → Prop) (w64 : Int64) (at_ : Int32) (S : ex_S) (v : Int32) (S' : ex_S) : Prop := ex_fw rpl S S' ∧ ∀ n b A, rql w64 at_ S n b A → (pf A = 0 → R S A) → (pfw sort (S.1 42) n b = -1 → v = 0 ∧ S'.1 41 16 = Int32.ofNat (tk_s (S.1 42) n b)) ∧ ∀ w, w < 13 → pfw sort (S.1 42) n b = Int32.ofNat w → (∀ p, pl_pre (S.1 42) n w (tk_e (S.1 42) n b) = some p → v = 0 ∧ S'.1 41 16 = Int32.ofNat p) ∧ (pl_pre (S.1 42) n w (tk_e (S.1 42) n b) = none → v = 1 ∧ rtok S' n (bst (S.1 42) n w (tk_e (S.1 42) n b)) ∧ rqf S' (pline (S.1 42) n w (tk_s (S.1 42) n b) (tk_e (S.1 42) n b) A) (tk_s (S.1 42) n (bst (S.1 42) n w (tk_e (S.1 42) n b))) ∧ (pf (pline (S.1 42) n w (tk_s (S.1 42) n b) (tk_e (S.1 42) n b) A) = 0 → R S' (pline (S.1 42) n w (tk_s (S.1 42) n b) (tk_e (S.1 42) n b) A)))
/-- the first word's FAULT is noted -/
def ri (w : Nat) (R : ex_S → pA → Prop) (w64 : Int64) (at_ : Int32) (S T : ex_S) : Prop := ex_fw rp182 S T ∧ ∀ n b A, rql w64 at_ S n b A → (pf A = 0 → R S A) → rqf T (pnote A (pmany w A) 3 (Int32.ofNat (tk_s (S.1 42) n b))) (tk_s (S.1 42) n b + 1)
theorem ri_no {w : Nat} {R : ex_S → pA → Prop} {w64 : Int64} {at_ : Int32} {S : ex_S} (h : ∀ A, pf A = 0 → R S A → pmany w A = false) : ri w R w64 at_ S S := by
  refine ⟨ex_fw.refl _ S, fun n b A q hR => ?_⟩
  by_cases h0 : pf A = 0
  · rw [h A h0 (hR h0), pnote_f]; exact q.2.2.2.2.keep rfl rfl (by omega)
  · rw [pnote_ne h0]; exact q.2.2.2.2.keep rfl rfl (by omega)
theorem ri_yes {w : Nat} {R : ex_S → pA → Prop} {w64 : Int64} {at_ : Int32} {S T : ex_S} (hT : rc182 3 at_ S T) (h : ∀ A, pf A = 0 → R S A → pmany w A = true) : ri w R w64 at_ S T := by
  refine ⟨hT.fw, fun n b A q hR => ?_⟩
  have hs := tk_s_le (T := S.1 42) q.1.2.1
  have hn := q.1.2.2.1
  rw [q.2.1] at hT
  have := hT.note q.2.2.2.2 (by omega) (by decide)
  by_cases h0 : pf A = 0
  · rw [h A h0 (hR h0)]; exact this
  · rw [pnote_ne h0] at this ⊢; exact this
/-- the numbers begin -/
theorem ri.start {w : Nat} {R : ex_S → pA → Prop} {w64 : Int64} {at_ : Int32} {S T U : ex_S} {n b off : Nat} {A : pA} (h : ri w R w64 at_ S T) (hU : rc179 T U) (q : rql w64 at_ S n b A) (hR : pf A = 0 → R S A) (hk : tk_k (S.1 42) n b ≠ 0) : rn U (S.1 42) n w (tk_e (S.1 42) n b) 0 off (pnote A (pmany w A) 3 (Int32.ofNat (tk_s (S.1 42) n b))) := by
  have F : ex_fw rpn S T := h.1.mono rp182_n
  have e42 := fw42 F
  have t := q.1.at
  have tT : tr_at T n (tk_e (S.1 42) n b) := ⟨(F.1 41 11 (by unfold rpn; omega)).trans t.1, (h.1.1 41 10 (by unfold rp182; omega)).trans t.2.1, t.2.2.1, t.2.2.2.1, fun i => by rw [e42]; exact t.2.2.2.2 i⟩
  have gt := tk_e_gt hk
  have gs := tk_s_ge (T := S.1 42) (n := n) (b := tk_e (S.1 42) n b)
  refine ⟨hU.t42.trans e42, hU.tok tT, ?_, fun i hi => absurd hi (by omega), rfl, fun z => ?_⟩
  · exact (h.2 n b A q hR).keep (hU.1.1 41 17 (by unfold rp179; omega)) (hU.1.1 41 18 (by unfold rp179; omega)) (by show _ ≤ tk_s (S.1 42) n (tk_e (S.1 42) n b); omega)
  · rw [hU.1.1 41 22 (by unfold rp179; omega), h.1.1 41 22 (by unfold rp182; omega), q.2.2.2.1] at z
    exact absurd z (by decide)
/-- a line that stops among its numbers -/
theorem rcl_stop {sort : Int32} {R : ex_S → pA → Prop} {S S' : ex_S} {n b w0 p : Nat} {A : pA} {v : Int32} (hw : pfw sort (S.1 42) n b = Int32.ofNat w0) (hw0 : w0 < 13) (hv : v = 0) (hp : pl_pre (S.1 42) n w0 (tk_e (S.1 42) n b) = some p) (h16 : S'.1 41 16 = Int32.ofNat p) : (pfw sort (S.1 42) n b = -1 → v = 0 ∧ S'.1 41 16 = Int32.ofNat (tk_s (S.1 42) n b)) ∧ ∀ w, w < 13 → pfw sort (S.1 42) n b = Int32.ofNat w → (∀ p, pl_pre (S.1 42) n w (tk_e (S.1 42) n b) = some p → v = 0 ∧ S'.1 41 16 = Int32.ofNat p) ∧ (pl_pre (S.1 42) n w (tk_e (S.1 42) n b) = none → v = 1 ∧ rtok S' n (bst (S.1 42) n w (tk_e (S.1 42) n b)) ∧ rqf S' (pline (S.1 42) n w (tk_s (S.1 42) n b) (tk_e (S.1 42) n b) A) (tk_s (S.1 42) n (bst (S.1 42) n w (tk_e (S.1 42) n b))) ∧ (pf (pline (S.1 42) n w (tk_s (S.1 42) n b) (tk_e (S.1 42) n b) A) = 0 → R S' (pline (S.1 42) n w (tk_s (S.1 42) n b) (tk_e (S.1 42) n b) A))) := by
  refine ⟨fun z => absurd (hw.symm.trans z) (n32_m1 (by omega)), fun w hw13 e => ?_⟩
  have : w = w0 := n32_w hw13 (by omega) (e.symm.trans hw)
  subst this
  refine ⟨fun q z => ?_, fun z => (by rw [hp] at z; cases z)⟩
  rw [hp] at z
  cases z
  exact ⟨hv, h16⟩
/-- a line that is one -/
theorem rcl_goes {sort : Int32} {R : ex_S → pA → Prop} {S S' : ex_S} {n b w0 : Nat} {A : pA} {v : Int32} (hw : pfw sort (S.1 42) n b = Int32.ofNat w0) (hw0 : w0 < 13) (hv : v = 1) (hp : pl_pre (S.1 42) n w0 (tk_e (S.1 42) n b) = none) (h1 : rtok S' n (bst (S.1 42) n w0 (tk_e (S.1 42) n b))) (h2 : rqf S' (pline (S.1 42) n w0 (tk_s (S.1 42) n b) (tk_e (S.1 42) n b) A) (tk_s (S.1 42) n (bst (S.1 42) n w0 (tk_e (S.1 42) n b)))) (h3 : pf (pline (S.1 42) n w0 (tk_s (S.1 42) n b) (tk_e (S.1 42) n b) A) = 0 → R S' (pline (S.1 42) n w0 (tk_s (S.1 42) n b) (tk_e (S.1 42) n b) A)) : (pfw sort (S.1 42) n b = -1 → v = 0 ∧ S'.1 41 16 = Int32.ofNat (tk_s (S.1 42) n b)) ∧ ∀ w, w < 13 → pfw sort (S.1 42) n b = Int32.ofNat w → (∀ p, pl_pre (S.1 42) n w (tk_e (S.1 42) n b) = some p → v = 0 ∧ S'.1 41 16 = Int32.ofNat p) ∧ (pl_pre (S.1 42) n w (tk_e (S.1 42) n b) = none → v = 1 ∧ rtok S' n (bst (S.1 42) n w (tk_e (S.1 42) n b)) ∧ rqf S' (pline (S.1 42) n w (tk_s (S.1 42) n b) (tk_e (S.1 42) n b) A) (tk_s (S.1 42) n (bst (S.1 42) n w (tk_e (S.1 42) n b))) ∧ (pf (pline (S.1 42) n w (tk_s (S.1 42) n b) (tk_e (S.1 42) n b) A) = 0 → R S' (pline (S.1 42) n w (tk_s (S.1 42) n b) (tk_e (S.1 42) n b) A))) := by
  refine ⟨fun z => absurd (hw.symm.trans z) (n32_m1 (by omega)), fun w hw13 e => ?_⟩
  have : w = w0 := n32_w hw13 (by omega) (e.symm.trans hw)
  subst this
  exact ⟨fun q z => (by rw [hp] at z; cases z), fun _ => ⟨hv, h1, h2, h3⟩⟩
/-- keeping leaves the FAULT -/
theorem pkeep_f {w : Nat} {l : Nat → Int32} {A : pA} : pf (pkeep w l A) = pf A ∧ pp (pkeep w l A) = pp A := by
  by_cases hw : 4 ≤ w
  · rw [pkeep_4 hw]; exact ⟨rfl, rfl⟩
  · rcases (show w = 0 ∨ w = 1 ∨ w = 2 ∨ w = 3 by omega) with z | z | z | z <;> subst z
    · rw [pkeep_0]; exact ⟨rfl, rfl⟩
    · rw [pkeep_1]; exact ⟨rfl, rfl⟩
    · rw [pkeep_2]; exact ⟨rfl, rfl⟩
    · rw [pkeep_3]; exact ⟨rfl, rfl⟩
theorem pline_f {T : Nat → Int32} {n w s b : Nat} {A : pA} : pf (pline T n w s b A) = pf (pan T n w b (pnote A (pmany w A) 3 (Int32.ofNat s)) (pnl w)) ∧ pp (pline T n w s b A) = pp (pan T n w b (pnote A (pmany w A) 3 (Int32.ofNat s)) (pnl w)) := by
  unfold pline
  split
  · exact pkeep_f
  · exact ⟨rfl, rfl⟩
theorem rqf.line {S : ex_S} {T : Nat → Int32} {n w s b m : Nat} {A : pA} (h : rqf S (pan T n w b (pnote A (pmany w A) 3 (Int32.ofNat s)) (pnl w)) m) : rqf S (pline T n w s b A) m := by
  obtain ⟨e1, e2⟩ := pline_f (T := T) (n := n) (w := w) (s := s) (b := b) (A := A)
  unfold rqf
  rw [e1, e2]; exact h
/-- without a FAULT the line is kept, and nothing was noted -/
theorem pline_0 {T : Nat → Int32} {n w s b : Nat} {A : pA} (h : pf (pline T n w s b A) = 0) : pline T n w s b A = pkeep w (pll T n w b) A ∧ pf A = 0 ∧ pmany w A = false := by
  have h' := h
  rw [pline_f.1] at h
  obtain ⟨e1, e2⟩ := pan_0 h
  obtain ⟨e3, e4, e5⟩ := pnote_0 (by decide) e2
  refine ⟨?_, e3, e4⟩
  unfold pline
  rw [if_pos h, e1, e5]
