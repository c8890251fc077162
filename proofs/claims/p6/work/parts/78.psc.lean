/-! LINES of a text, as both sides read them -/
def pwt (sort : Int32) : Nat := if sort = 0 then 7 else if sort = 2 then 8 else 9
def pwb (sort : Int32) : Int32 := if sort = 0 then 0 else if sort = 2 then 3 else 7
def pws (t : Nat) (T : Nat → Int32) (n b : Nat) : Int32 := if tk_k T n b = 1 then wa t (fun f l => sp_b (ex_st (t + 4)) T f l (tk_s T n b) (tk_e T n b)) else -1
def pfw (sort : Int32) (T : Nat → Int32) (n b : Nat) : Int32 := if pws (pwt sort) T n b = -1 then -1 else pwb sort + pws (pwt sort) T n b
/-- behind i tokens -/
def nb (T : Nat → Int32) (n b : Nat) : Nat → Nat
  | 0 => b
  | i + 1 => tk_e T n (nb T n b i)
/-- where the first of c tokens is no NUMBER -/
def pl_f (T : Nat → Int32) (n : Nat) : Nat → Nat → Option Nat
  | 0, _ => none
  | c + 1, b => if tk_k T n b = 2 then pl_f T n c (tk_e T n b) else some (tk_s T n b)
def pl_s (T : Nat → Int32) (n b : Nat) : Option Nat := if tk_k T n b = 3 then none else some (tk_s T n b)
def pl_t (T : Nat → Int32) (n w b : Nat) : Option Nat := if w = 0 then (if pws 10 T n b = -1 then some (tk_s T n b) else pl_s T n (tk_e T n b)) else pl_s T n b
/-- where a line stops being one (b: behind its first word) -/
def pl_fail (T : Nat → Int32) (n w b : Nat) : Option Nat := match pl_f T n (pnl w) b with | some p => some p | none => pl_t T n w (nb T n b (pnl w))
def pl_end (T : Nat → Int32) (n w b : Nat) : Nat := tk_e T n (if w = 0 then tk_e T n (nb T n b (pnl w)) else nb T n b (pnl w))
/-- its numbers -/
def pll (T : Nat → Int32) (n w b j : Nat) : Int32 := if j < pnl w then tk_v T n (nb T n b j) else if w = 0 ∧ j = 3 then pws 10 T n (nb T n b 3) else -1
/-- FAULTS of its first i numbers -/
def pan (T : Nat → Int32) (n w b : Nat) (A : pA) : Nat → pA
  | 0 => A
  | i + 1 => pnote (pan T n w b A i) (pbad w i (pll T n w b)) 2 (Int32.ofNat (tk_s T n (nb T n b i)))
def pline (T : Nat → Int32) (n w s b : Nat) (A : pA) : pA := if pf (pan T n w b (pnote A (pmany w A) 3 (Int32.ofNat s)) (pnl w)) = 0 then pkeep w (pll T n w b) (pan T n w b (pnote A (pmany w A) 3 (Int32.ofNat s)) (pnl w)) else pan T n w b (pnote A (pmany w A) 3 (Int32.ofNat s)) (pnl w)
/-- all lines: where the text stops being one, or what it tells -/
def ps_run (sort : Int32) (T : Nat → Int32) (n : Nat) : Nat → Nat → pA → Nat ⊕ pA
  | 0, _, A => .inr A
  | k + 1, b, A => if tk_k T n b = 0 then .inr A else if pfw sort T n b = -1 then .inl (tk_s T n b) else match pl_fail T n (pfw sort T n b).toNatClampNeg (tk_e T n b) with
    | some p => .inl p
    | none => ps_run sort T n k (pl_end T n (pfw sort T n b).toNatClampNeg (tk_e T n b)) (pline T n (pfw sort T n b).toNatClampNeg (tk_s T n b) (tk_e T n b) A)
/-- a ROW's SIGNS -/
def pr_keep (x : Int32) (A : pA) : pA := (pf A, pp A, pic A + 1, fun k j => if k = pic A then x else pit A k j, A.2.2.2.2)
def pr_one (T : Nat → Int32) (n b : Nat) (A : pA) : pA := if pf (pnote (pnote A (decide (10 ≤ tk_v T n b)) 2 (Int32.ofNat (tk_s T n b))) (decide (12 ≤ pic A)) 3 (Int32.ofNat (tk_s T n b))) = 0 then pr_keep (tk_v T n b) A else pnote (pnote A (decide (10 ≤ tk_v T n b)) 2 (Int32.ofNat (tk_s T n b))) (decide (12 ≤ pic A)) 3 (Int32.ofNat (tk_s T n b))
def pr_run (T : Nat → Int32) (n : Nat) : Nat → Nat → pA → Nat ⊕ pA
  | 0, _, A => .inr A
  | k + 1, b, A => if tk_k T n b = 0 then .inr A else if tk_k T n b = 2 then pr_run T n k (tk_e T n b) (pr_one T n b A) else .inl (tk_s T n b)
def pA0 : pA := (0, -1, 0, fun _ _ => 0, 0, fun _ _ => 0, fun _ => 0, 4, -1)
def ps_all (sort : Int32) (T : Nat → Int32) (n : Nat) : Nat ⊕ pA := if sort = 1 then pr_run T n 601 0 pA0 else ps_run sort T n 601 0 pA0
def ps_last (sort : Int32) (A : pA) : Bool := (decide (sort = 1) && decide (pic A = 0)) || (decide (sort = 2) && decide (pst A ≤ phi A))
/-- a text's FAULT, its place, and what it tells -/
def ps_text (sort : Int32) (T : Nat → Int32) (n : Nat) : pA := match ps_all sort T n with | .inl p => (1, Int32.ofNat p, pA0.2.2) | .inr A => pnote A (ps_last sort A) 4 (Int32.ofNat n)
/-- the class's token is the one behind b -/
def ctok (S : ex_S) (n b : Nat) : Prop := S.1 30 1 = Int32.ofNat n ∧ b ≤ n ∧ n ≤ 600 ∧ S.1 30 3 = Int32.ofNat (tk_s (S.1 18) n b) ∧ S.1 30 2 = Int32.ofNat (tk_e (S.1 18) n b) ∧ S.1 30 4 = Int32.ofNat (tk_k (S.1 18) n b) ∧ (tk_k (S.1 18) n b = 2 → S.1 30 5 = tk_v (S.1 18) n b)
theorem ctok.at {S : ex_S} {n b : Nat} (h : ctok S n b) : tc_at S n (tk_e (S.1 18) n b) := ⟨h.1, h.2.2.2.2.1, tk_e_le h.2.1, h.2.2.1⟩
theorem cc16.tok {S S' : ex_S} {n b : Nat} (h : cc16 S S') (hb : tc_at S n b) : ctok S' n b := by
  obtain ⟨F, h⟩ := h
  obtain ⟨h1, h2, h3, h4⟩ := h n b hb
  have e : S'.1 18 = S.1 18 := by funext j; exact F.1 18 j (by omega)
  unfold ctok
  rw [e]
  exact ⟨(F.1 30 1 (by decide)).trans hb.1, hb.2.2.1, hb.2.2.2, h1, h2, h3, h4⟩
theorem cc16.t18 {S S' : ex_S} (h : cc16 S S') : S'.1 18 = S.1 18 := by funext j; exact h.1.1 18 j (by omega)
theorem cc16.ra {S S' : ex_S} {A : pA} (h : cc16 S S') (r : ra S A) : ra S' A := r.keep (fun k => h.1.1 25 k (by omega)) (fun k => h.1.1 26 k (by omega)) (fun k => h.1.1 27 k (by omega)) (fun k => h.1.1 28 k (by omega))
theorem KV_fx {P : Nat → Nat → Prop} {S T : ex_S} (h : ex_fx P S T) (hP : ∀ a k, P a k → 16 ≤ a) (kv : ex_KV S) : ex_KV T := by
  intro a a1 a2
  refine ⟨fun j => ?_, ?_⟩
  · rw [h.1 a j (fun z => by have := hP a j z; omega)]; exact (kv a a1 a2).1 j
  · rw [h.2]; exact (kv a a1 a2).2
theorem tk_k4 {T : Nat → Int32} {n b : Nat} : tk_k T n b ≤ 4 := by
  unfold tk_k
  split
  · split
    · decide
    · split
      · split <;> decide
      · split <;> decide
  · decide
/-- firstWord -/
theorem cc24.ws {t : Nat} {S S' : ex_S} {v : Int32} {n b : Nat} (h : cc24 t S v S') (kv : ex_KV S) (h1 : 7 ≤ t) (h2 : t < 11) (hb : ctok S n b) : v = pws t (S.1 18) n b := by
  have e := h.2 kv h1 h2 _ _ hb.2.2.2.1 hb.2.2.2.2.1 tk_e_ge (Nat.le_trans (tk_e_le hb.2.1) hb.2.2.1)
  rw [e]
  unfold pws
  have := tk_k4 (T := S.1 18) (n := n) (b := b)
  by_cases hk : tk_k (S.1 18) n b = 1
  · rw [if_pos hk, if_pos (by rw [hb.2.2.2.2.2.1, hk]; rfl)]
  · rw [if_neg hk, if_neg (fun z => hk ((n32_eq (by omega) (by decide)).mp (hb.2.2.2.2.2.1.symm.trans (z.trans (show (1 : Int32) = Int32.ofNat 1 from rfl)))))]
def cc23 (sort : Int32) (S : ex_S) (v : Int32) (S' : ex_S) : Prop := S' = S ∧ (ex_KV S → ∀ n b, ctok S n b → v = pfw sort (S.1 18) n b)
theorem ec23 : es23 cc23 := by
  refine ev23 ec24 ?_ ?_ ?_ ?_ ?_ ?_
  · intro a S c r U hU c2
    refine ⟨hU.1, fun kv n b hb => ?_⟩
    have e := hU.ws kv (by decide) (by decide) hb
    unfold pfw pwt pwb
    rw [if_pos c, ← e, if_neg c2, if_pos c]
  · intro a S c r U hU c2
    refine ⟨hU.1, fun kv n b hb => ?_⟩
    have e := hU.ws kv (by decide) (by decide) hb
    unfold pfw pwt pwb
    rw [if_pos c, ← e, if_pos (Classical.not_not.mp c2)]
  · intro a S c0 c r U hU c2
    refine ⟨hU.1, fun kv n b hb => ?_⟩
    have e := hU.ws kv (by decide) (by decide) hb
    unfold pfw pwt pwb
    rw [if_neg c0, if_pos c, ← e, if_neg c2, if_neg c0, if_pos c]
  · intro a S c0 c r U hU c2
    refine ⟨hU.1, fun kv n b hb => ?_⟩
    have e := hU.ws kv (by decide) (by decide) hb
    unfold pfw pwt pwb
    rw [if_neg c0, if_pos c, ← e, if_pos (Classical.not_not.mp c2)]
  · intro a S c0 c r U hU c2
    refine ⟨hU.1, fun kv n b hb => ?_⟩
    have e := hU.ws kv (by decide) (by decide) hb
    unfold pfw pwt pwb
    rw [if_neg c0, if_neg c, ← e, if_neg c2, if_neg c0, if_neg c]
  · intro a S c0 c r U hU c2
    refine ⟨hU.1, fun kv n b hb => ?_⟩
    have e := hU.ws kv (by decide) (by decide) hb
    unfold pfw pwt pwb
    rw [if_neg c0, if_neg c, ← e, if_pos (Classical.not_not.mp c2)]
/-- Arrays.fill -/
def cc13 (a : Nat) (v : Int32) (S S' : ex_S) : Prop := ex_fx (fun b _ => b = a) S S' ∧ ∀ n, S.2.2.2.1 a = n → n ≤ 1000 → ∀ j, S'.1 a j = if j < n then v else S.1 a j
def ci13 (a : Nat) (v : Int32) (S : ex_S) (x y : Int32) (T : ex_S) : Prop := ex_fx (fun b _ => b = a) S T ∧ ∀ n, S.2.2.2.1 a = n → n ≤ 1000 → y = Int32.ofNat n ∧ ∃ i, i ≤ n ∧ x = Int32.ofNat i ∧ ∀ j, T.1 a j = if j < i then v else S.1 a j
theorem ec13 : es13 cc13 := by
  refine ev13 (I5 := ci13) ?_ ?_ ?_
  · intro a v S
    refine ⟨ex_fx.refl _ S, fun n e hn => ⟨by rw [e], 0, by omega, rfl, fun j => by rw [if_neg (by omega)]⟩⟩
  · intro a v S x y T hI c
    refine ⟨hI.1, fun n e hn => ?_⟩
    obtain ⟨h1, i, i1, i2, i3⟩ := hI.2 n e hn
    rw [h1, i2, n32_le (by omega) (by omega)] at c
    have : i = n := by omega
    subst this
    exact i3
  · intro a v S x y T hI c
    refine ⟨hI.1.sx rfl, fun n e hn => ?_⟩
    obtain ⟨h1, i, i1, i2, i3⟩ := hI.2 n e hn
    rw [h1, i2, n32_le (by omega) (by omega)] at c
    refine ⟨h1, i + 1, by omega, by rw [i2, n32_s], fun j => ?_⟩
    rw [ex_sx_at, i2, n32_tn (by omega), i3]
    by_cases hj : j = i
    · rw [if_pos ⟨rfl, hj⟩, if_pos (by omega)]
    · rw [if_neg (fun z => hj z.2)]
      by_cases hl : j < i
      · rw [if_pos hl, if_pos (by omega)]
      · rw [if_neg hl, if_neg (by omega)]
/-- readLine -/
def pP37 (a k : Nat) : Prop := (a = 30 ∧ 2 ≤ k) ∨ (a = 25 ∧ 1 ≤ k) ∨ a = 26 ∨ a = 27 ∨ a = 28 ∨ a = 29
/-- what readLine is asked: word w, token behind b0, reader A -/
def pq37 (S : ex_S) (w n b0 : Nat) (A : pA) : Prop := w < 13 ∧ ctok S n b0 ∧ ra S A ∧ ex_KV S ∧ S.2.2.2.1 29 = 4
theorem nb_le {T : Nat → Int32} {n b : Nat} (hb : b ≤ n) (i : Nat) : nb T n b i ≤ n := by
  induction i with
  | zero => exact hb
  | succ i ih => exact tk_e_le ih
theorem nb_mono {T : Nat → Int32} {n b : Nat} (i : Nat) : b ≤ nb T n b i := by
  induction i with
  | zero => exact Nat.le_refl _
  | succ i ih => exact Nat.le_trans ih (Nat.le_trans tk_s_ge tk_e_ge)
def cc37 (w : Int32) (S : ex_S) (v : Int32) (S' : ex_S) : Prop := ex_fx pP37 S S' ∧ (w = -1 → v = 0 ∧ S' = S) ∧ ∀ i n b0 A, w = Int32.ofNat i → pq37 S i n b0 A → (∀ p, pl_fail (S.1 18) n i (tk_e (S.1 18) n b0) = some p → v = 0 ∧ S'.1 30 3 = Int32.ofNat p) ∧ (pl_fail (S.1 18) n i (tk_e (S.1 18) n b0) = none → v = 1 ∧ tc_at S' n (pl_end (S.1 18) n i (tk_e (S.1 18) n b0)) ∧ ra S' (pline (S.1 18) n i (tk_s (S.1 18) n b0) (tk_e (S.1 18) n b0) A))
def ci37 (w : Int32) (S : ex_S) (x : Int32) (T : ex_S) : Prop := ex_fx pP37 S T ∧ w ≠ -1 ∧ ∀ i n b0 A, w = Int32.ofNat i → pq37 S i n b0 A → ∃ j, j ≤ pnl i ∧ x = Int32.ofNat j ∧ tc_at T n (nb (S.1 18) n (tk_e (S.1 18) n b0) j) ∧ pl_f (S.1 18) n (pnl i - j) (nb (S.1 18) n (tk_e (S.1 18) n b0) j) = pl_f (S.1 18) n (pnl i) (tk_e (S.1 18) n b0) ∧ (∀ k, k < j → T.1 29 k = tk_v (S.1 18) n (nb (S.1 18) n (tk_e (S.1 18) n b0) k)) ∧ (∀ k, j ≤ k → k < 4 → T.1 29 k = -1) ∧ ra T (pan (S.1 18) n i (tk_e (S.1 18) n b0) (pnote A (pmany i A) 3 (Int32.ofNat (tk_s (S.1 18) n b0))) j)
theorem pnl3 {w : Nat} (h : w < 13) : pnl w ≤ 3 ∧ 1 ≤ pnl w := by
  have k : ∀ w : Fin 13, pnl w.val ≤ 3 ∧ 1 ≤ pnl w.val := by decide
  exact k ⟨w, h⟩
theorem pnote_0 {A : pA} {c : Bool} {f p : Int32} (hf : f ≠ 0) (h : pf (pnote A c f p) = 0) : pf A = 0 ∧ c = false ∧ pnote A c f p = A := by
  unfold pnote at h ⊢
  by_cases hc : pf A = 0 ∧ c = true
  · rw [if_pos hc] at h; exact absurd h hf
  · rw [if_neg hc] at h ⊢
    refine ⟨h, ?_, rfl⟩
    cases c with
    | false => rfl
    | true => exact absurd ⟨h, rfl⟩ hc
theorem pan_0 {T : Nat → Int32} {n w b : Nat} {A : pA} : ∀ {i : Nat}, pf (pan T n w b A i) = 0 → pan T n w b A i = A ∧ pf A = 0
  | 0, h => ⟨rfl, h⟩
  | i + 1, h => by
    obtain ⟨h1, h2, h3⟩ := pnote_0 (by decide) h
    have e : pan T n w b A (i + 1) = pan T n w b A i := h3
    obtain ⟨e1, e2⟩ := pan_0 h1
    exact ⟨e.trans e1, e2⟩
theorem pan_room {T : Nat → Int32} {n w b : Nat} {A : pA} {p : Int32} {i : Nat} (hw : w < 13) (hA : pf A = 0 → pic A ≤ 50 ∧ prc A ≤ 16) (h : pf (pan T n w b (pnote A (pmany w A) 3 p) i) = 0) : proom w (pan T n w b (pnote A (pmany w A) 3 p) i) := by
  obtain ⟨e1, e2⟩ := pan_0 h
  obtain ⟨e3, e4, e5⟩ := pnote_0 (by decide) e2
  rw [e1, e5]
  obtain ⟨h1, h2⟩ := hA e3
  unfold pmany at e4
  have e6 := of_decide_eq_false e4
  unfold pthere at e6
  unfold proom
  rcases (show w = 0 ∨ w = 1 ∨ w = 2 ∨ w = 3 ∨ w = 4 ∨ w = 5 ∨ w = 6 ∨ w = 7 ∨ w = 8 ∨ w = 9 ∨ w = 10 ∨ w = 11 ∨ w = 12 by omega) with z | z | z | z | z | z | z | z | z | z | z | z | z <;> subst z
  · exact ⟨fun z => absurd z (by decide), fun _ => by rw [if_neg (by decide), show pmo 0 = 10 from rfl] at e6; omega⟩
  · exact ⟨fun _ => by rw [if_pos rfl, show pmo 1 = 16 from rfl] at e6; omega, fun z => by omega⟩
  · exact ⟨fun z => absurd z (by decide), fun z => by omega⟩
  · exact ⟨fun z => absurd z (by decide), fun z => by omega⟩
  · exact ⟨fun z => absurd z (by decide), fun _ => by rw [if_neg (by decide), show pmo 4 = 50 from rfl] at e6; omega⟩
  · exact ⟨fun z => absurd z (by decide), fun _ => by rw [if_neg (by decide), show pmo 5 = 50 from rfl] at e6; omega⟩
  · exact ⟨fun z => absurd z (by decide), fun _ => by rw [if_neg (by decide), show pmo 6 = 50 from rfl] at e6; omega⟩
  · exact ⟨fun z => absurd z (by decide), fun _ => by rw [if_neg (by decide), show pmo 7 = 8 from rfl] at e6; omega⟩
  · exact ⟨fun z => absurd z (by decide), fun _ => by rw [if_neg (by decide), show pmo 8 = 8 from rfl] at e6; omega⟩
  · exact ⟨fun z => absurd z (by decide), fun _ => by rw [if_neg (by decide), show pmo 9 = 8 from rfl] at e6; omega⟩
  · exact ⟨fun z => absurd z (by decide), fun _ => by rw [if_neg (by decide), show pmo 10 = 8 from rfl] at e6; omega⟩
  · exact ⟨fun z => absurd z (by decide), fun _ => by rw [if_neg (by decide), show pmo 11 = 8 from rfl] at e6; omega⟩
  · exact ⟨fun z => absurd z (by decide), fun _ => by rw [if_neg (by decide), show pmo 12 = 8 from rfl] at e6; omega⟩
