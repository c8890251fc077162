/-! A text hangs on its own places of the tape alone -/
section CG
variable {T U : Nat → Int32} {n : Nat}
theorem cg_rf (h : ∀ j, j < n → T j = U j) (p : Int32 → Bool) (k i : Nat) : tk_rf p T n k i = tk_rf p U n k i := by
  induction k generalizing i with
  | zero => rfl
  | succ k ih =>
    show (if i < n ∧ p (T i) = true then tk_rf p T n k (i + 1) else i) = (if i < n ∧ p (U i) = true then tk_rf p U n k (i + 1) else i)
    by_cases hi : i < n
    · rw [h i hi, ih]
    · rw [if_neg (fun z => hi z.1), if_neg (fun z => hi z.1)]
theorem cg_r (h : ∀ j, j < n → T j = U j) (p : Int32 → Bool) (i : Nat) : tk_r p T n i = tk_r p U n i := cg_rf h p _ i
theorem cg_s (h : ∀ j, j < n → T j = U j) (b : Nat) : tk_s T n b = tk_s U n b := cg_r h _ b
theorem cg_k (h : ∀ j, j < n → T j = U j) (b : Nat) : tk_k T n b = tk_k U n b := by
  unfold tk_k
  rw [cg_s h b]
  by_cases hs : tk_s U n b < n
  · rw [h _ hs, cg_r h tk_di]
  · rw [if_neg hs, if_neg hs]
theorem cg_e (h : ∀ j, j < n → T j = U j) (b : Nat) : tk_e T n b = tk_e U n b := by
  unfold tk_e
  rw [cg_s h b]
  by_cases hs : tk_s U n b < n
  · rw [h _ hs, cg_r h tk_di, cg_r h tk_le]
  · rw [if_neg hs, if_neg hs]
theorem cg_dv (h : ∀ j, j < n → T j = U j) {s i : Nat} (hs : s ≤ i) (hi : i ≤ n ∨ i = s) : tk_dv T s i = tk_dv U s i := by
  unfold tk_dv
  by_cases e : i = s
  · rw [if_pos e, if_pos e]
  · have i1 : i ≤ n := hi.resolve_right e
    rw [if_neg e, if_neg e, h s (by omega)]
    by_cases e2 : i = s + 1
    · rw [if_pos e2, if_pos e2]
    · rw [if_neg e2, if_neg e2, h (s + 1) (by omega)]
theorem cg_v (h : ∀ j, j < n → T j = U j) (b : Nat) : tk_v T n b = tk_v U n b := by
  unfold tk_v
  rw [cg_s h b, cg_r h tk_di]
  refine cg_dv h tk_r_ge ?_
  by_cases hb : tk_s U n b ≤ n
  · exact Or.inl (tk_r_le hb)
  · exact Or.inr (tk_rn (fun z => hb (by omega)))
theorem cg_sp (h : ∀ j, j < n → T j = U j) {B : Nat → Int32} {f l s e : Nat} (he : e ≤ n) : sp_b B T f l s e = sp_b B U f l s e := by
  unfold sp_b
  by_cases q : l - f = e - s
  · have w : ∀ i, i < l - f → T (s + i) = U (s + i) := fun i hi => h _ (by omega)
    have e2 : (List.range (l - f)).all (fun i => decide (B (f + i) = T (s + i))) = (List.range (l - f)).all (fun i => decide (B (f + i) = U (s + i))) := by
      rw [Bool.eq_iff_iff, List.all_eq_true, List.all_eq_true]
      constructor
      · intro z i hi
        have y := z i hi
        rw [w i (List.mem_range.mp hi)] at y; exact y
      · intro z i hi
        have y := z i hi
        rw [← w i (List.mem_range.mp hi)] at y; exact y
    rw [e2]
  · rw [decide_eq_false q]; rfl
theorem cg_ws (h : ∀ j, j < n → T j = U j) (t b : Nat) : pws t T n b = pws t U n b := by
  unfold pws
  rw [cg_k h b]
  by_cases k1 : tk_k U n b = 1
  · rw [if_pos k1, if_pos k1, cg_s h b, cg_e h b]
    have hb : b ≤ n := by
      have g := (tk_e_gt (T := U) (n := n) (b := b) (by omega)).2
      have g2 := tk_s_ge (T := U) (n := n) (b := b)
      omega
    have he : tk_e U n b ≤ n := tk_e_le hb
    exact congrArg (wa t) (funext fun f => funext fun l => cg_sp h he)
  · rw [if_neg k1, if_neg k1]
theorem cg_fw (h : ∀ j, j < n → T j = U j) (sort : Int32) (b : Nat) : pfw sort T n b = pfw sort U n b := by
  unfold pfw
  rw [cg_ws h]
theorem cg_nb (h : ∀ j, j < n → T j = U j) (b i : Nat) : nb T n b i = nb U n b i := by
  induction i with
  | zero => rfl
  | succ i ih =>
    show tk_e T n (nb T n b i) = tk_e U n (nb U n b i)
    rw [ih, cg_e h]
theorem cg_f (h : ∀ j, j < n → T j = U j) (c b : Nat) : pl_f T n c b = pl_f U n c b := by
  induction c generalizing b with
  | zero => rfl
  | succ c ih =>
    show (if tk_k T n b = 2 then pl_f T n c (tk_e T n b) else some (tk_s T n b)) = (if tk_k U n b = 2 then pl_f U n c (tk_e U n b) else some (tk_s U n b))
    rw [cg_k h, cg_e h, cg_s h, ih]
theorem cg_ls (h : ∀ j, j < n → T j = U j) (b : Nat) : pl_s T n b = pl_s U n b := by
  unfold pl_s
  rw [cg_k h, cg_s h]
theorem cg_t (h : ∀ j, j < n → T j = U j) (w b : Nat) : pl_t T n w b = pl_t U n w b := by
  unfold pl_t
  rw [cg_ws h, cg_s h, cg_e h, cg_ls h b, cg_ls h]
theorem cg_fail (h : ∀ j, j < n → T j = U j) (w b : Nat) : pl_fail T n w b = pl_fail U n w b := by
  unfold pl_fail
  rw [cg_f h, cg_nb h, cg_t h]
theorem cg_end (h : ∀ j, j < n → T j = U j) (w b : Nat) : pl_end T n w b = pl_end U n w b := by
  unfold pl_end
  rw [cg_nb h, cg_e h (nb U n b (pnl w)), cg_e h]
theorem cg_ll (h : ∀ j, j < n → T j = U j) (w b : Nat) : pll T n w b = pll U n w b := by
  funext j
  unfold pll
  rw [cg_nb h, cg_nb h b 3, cg_v h, cg_ws h]
theorem cg_an (h : ∀ j, j < n → T j = U j) (w b : Nat) (A : pA) (i : Nat) : pan T n w b A i = pan U n w b A i := by
  induction i with
  | zero => rfl
  | succ i ih =>
    show pnote (pan T n w b A i) (pbad w i (pll T n w b)) 2 (Int32.ofNat (tk_s T n (nb T n b i))) = pnote (pan U n w b A i) (pbad w i (pll U n w b)) 2 (Int32.ofNat (tk_s U n (nb U n b i)))
    rw [ih, cg_ll h, cg_nb h, cg_s h]
theorem cg_line (h : ∀ j, j < n → T j = U j) (w s b : Nat) (A : pA) : pline T n w s b A = pline U n w s b A := by
  unfold pline
  rw [cg_an h, cg_ll h]
theorem cg_run (h : ∀ j, j < n → T j = U j) (sort : Int32) (k b : Nat) (A : pA) : ps_run sort T n k b A = ps_run sort U n k b A := by
  induction k generalizing b A with
  | zero => rfl
  | succ k ih =>
    unfold ps_run
    rw [cg_k h, cg_fw h, cg_s h, cg_e h, cg_fail h, cg_end h, cg_line h, ih]
theorem cg_rrun (h : ∀ j, j < n → T j = U j) (k b : Nat) (A : pA) : pr_run T n k b A = pr_run U n k b A := by
  induction k generalizing b A with
  | zero => rfl
  | succ k ih =>
    have e : pr_one T n b A = pr_one U n b A := by
      unfold pr_one
      rw [cg_v h, cg_s h]
    unfold pr_run
    rw [cg_k h, cg_s h, cg_e h, e, ih]
theorem cg_text (h : ∀ j, j < n → T j = U j) (sort : Int32) : ps_text sort T n = ps_text sort U n := by
  unfold ps_text ps_all
  rw [cg_rrun h, cg_run h]
end CG
