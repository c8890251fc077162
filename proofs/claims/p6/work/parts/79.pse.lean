/-! ALL LINES, on the class's side -/
theorem pws_7 (T : Nat → Int32) (n b : Nat) : pws 7 T n b = -1 ∨ ∃ w, w ≤ 2 ∧ pws 7 T n b = Int32.ofNat w := by
  unfold pws
  split
  · rw [wa_7]
    split
    · exact Or.inr ⟨0, by decide, rfl⟩
    · split
      · exact Or.inr ⟨1, by decide, rfl⟩
      · split
        · exact Or.inr ⟨2, by decide, rfl⟩
        · exact Or.inl rfl
  · exact Or.inl rfl
theorem pws_8 (T : Nat → Int32) (n b : Nat) : pws 8 T n b = -1 ∨ ∃ w, w ≤ 3 ∧ pws 8 T n b = Int32.ofNat w := by
  unfold pws
  split
  · rw [wa_8]
    split
    · exact Or.inr ⟨0, by decide, rfl⟩
    · split
      · exact Or.inr ⟨1, by decide, rfl⟩
      · split
        · exact Or.inr ⟨2, by decide, rfl⟩
        · split
          · exact Or.inr ⟨3, by decide, rfl⟩
          · exact Or.inl rfl
  · exact Or.inl rfl
theorem pws_9 (T : Nat → Int32) (n b : Nat) : pws 9 T n b = -1 ∨ ∃ w, w ≤ 5 ∧ pws 9 T n b = Int32.ofNat w := by
  unfold pws
  split
  · rw [wa_9]
    split
    · exact Or.inr ⟨0, by decide, rfl⟩
    · split
      · exact Or.inr ⟨1, by decide, rfl⟩
      · split
        · exact Or.inr ⟨2, by decide, rfl⟩
        · split
          · exact Or.inr ⟨3, by decide, rfl⟩
          · split
            · exact Or.inr ⟨4, by decide, rfl⟩
            · split
              · exact Or.inr ⟨5, by decide, rfl⟩
              · exact Or.inl rfl
  · exact Or.inl rfl
theorem pfw_r (sort : Int32) (T : Nat → Int32) (n b : Nat) : pfw sort T n b = -1 ∨ ∃ w, w < 13 ∧ pfw sort T n b = Int32.ofNat w := by
  unfold pfw pwt pwb
  by_cases h0 : sort = 0
  · rw [if_pos h0, if_pos h0]
    rcases pws_7 T n b with e | ⟨w, hw, e⟩
    · rw [if_pos e]; exact Or.inl rfl
    · split
      · exact Or.inl rfl
      · rw [e, show (0 : Int32) = Int32.ofNat 0 from rfl, n32_add]; exact Or.inr ⟨0 + w, by omega, rfl⟩
  · rw [if_neg h0, if_neg h0]
    by_cases h2 : sort = 2
    · rw [if_pos h2, if_pos h2]
      rcases pws_8 T n b with e | ⟨w, hw, e⟩
      · rw [if_pos e]; exact Or.inl rfl
      · split
        · exact Or.inl rfl
        · rw [e, show (3 : Int32) = Int32.ofNat 3 from rfl, n32_add]; exact Or.inr ⟨3 + w, by omega, rfl⟩
    · rw [if_neg h2, if_neg h2]
      rcases pws_9 T n b with e | ⟨w, hw, e⟩
      · rw [if_pos e]; exact Or.inl rfl
      · split
        · exact Or.inl rfl
        · rw [e, show (7 : Int32) = Int32.ofNat 7 from rfl, n32_add]; exact Or.inr ⟨7 + w, by omega, rfl⟩
theorem n32_m1 {i : Nat} (h : i < 2147483648) : ¬ Int32.ofNat i = -1 := by
  intro z
  have := congrArg Int32.toInt z
  rw [n32_i h] at this
  have e1 : (-1 : Int32).toInt = -1 := rfl
  omega
theorem pl_end_ge {T : Nat → Int32} {n w b : Nat} : b ≤ pl_end T n w b := by
  unfold pl_end
  split
  · exact Nat.le_trans (nb_mono (pnl w)) (Nat.le_trans (Nat.le_trans tk_s_ge tk_e_ge) (Nat.le_trans tk_s_ge tk_e_ge))
  · exact Nat.le_trans (nb_mono (pnl w)) (Nat.le_trans tk_s_ge tk_e_ge)
theorem ps_0 {sort : Int32} {T : Nat → Int32} {n k b : Nat} {A : pA} (h : tk_k T n b = 0) : ps_run sort T n k b A = .inr A := by
  cases k with
  | zero => rfl
  | succ k => exact if_pos h
theorem ctok.k0 {S : ex_S} {n b : Nat} (h : ctok S n b) (c : S.1 30 4 = 0) : tk_k (S.1 18) n b = 0 := by
  have := tk_k4 (T := S.1 18) (n := n) (b := b)
  have h4 := h.2.2.2.2.2.1
  rw [c] at h4
  exact ((n32_eq (by decide) (by omega)).mp ((show (Int32.ofNat 0 : Int32) = 0 from rfl).trans h4)).symm
theorem ctok.kn {S : ex_S} {n b k : Nat} (h : ctok S n b) (c : ¬ S.1 30 4 = Int32.ofNat k) : ¬ tk_k (S.1 18) n b = k := fun z => c (by rw [h.2.2.2.2.2.1, z])
/-- readLines -/
def cq22 (S : ex_S) (n b k : Nat) (A : pA) : Prop := tc_at S n b ∧ ra S A ∧ ex_KV S ∧ S.2.2.2.1 29 = 4 ∧ n < b + k
def cc22 (sort : Int32) (S : ex_S) (v : Int32) (S' : ex_S) : Prop := ex_fx pP37 S S' ∧ ∀ n b k A, cq22 S n b k A → (∀ p, ps_run sort (S.1 18) n k b A = .inl p → v = 0 ∧ S'.1 30 3 = Int32.ofNat p) ∧ (∀ A', ps_run sort (S.1 18) n k b A = .inr A' → v = 1 ∧ ra S' A')
def ci22 (sort : Int32) (S : ex_S) (x : Int32) (T : ex_S) : Prop := ex_fx pP37 S T ∧ ∀ n b k A, cq22 S n b k A → ∃ i b' k' A', x = Int32.ofNat i ∧ i ≤ b' ∧ ctok T n b' ∧ ra T A' ∧ n < b' + k' ∧ ps_run sort (S.1 18) n k' b' A' = ps_run sort (S.1 18) n k b A
theorem fx18 {S T : ex_S} (F : ex_fx pP37 S T) : T.1 18 = S.1 18 := by funext j; exact F.1 18 j (by unfold pP37; omega)
theorem ec22 : es22 cc22 := by
  have fin : ∀ (sort : Int32) (S T : ex_S) (n b' k' k b : Nat) (A A' : pA), T.1 18 = S.1 18 → tk_k (T.1 18) n b' = 0 → ra T A' → ps_run sort (S.1 18) n k' b' A' = ps_run sort (S.1 18) n k b A → (∀ p, ps_run sort (S.1 18) n k b A = .inl p → (1 : Int32) = 0 ∧ T.1 30 3 = Int32.ofNat p) ∧ (∀ A'', ps_run sort (S.1 18) n k b A = .inr A'' → (1 : Int32) = 1 ∧ ra T A'') := by
    intro sort S T n b' k' k b A A' e18 h0 r e
    rw [e18] at h0
    rw [← e, ps_0 h0]
    exact ⟨fun p z => (by cases z), fun A'' z => (by cases z; exact ⟨rfl, r⟩)⟩
  refine ev22 (I9 := ci22) ec16 ec23 ec37 ?_ ?_ ?_ ?_ ?_
  · intro sort S U hU
    refine ⟨hU.1.mono (fun a k z => by unfold pP37; omega), fun n b k A q => ?_⟩
    exact ⟨0, b, k, A, rfl, Nat.zero_le _, hU.tok q.1, hU.ra q.2.1, q.2.2.2.2, rfl⟩
  · intro sort S x T hI c
    refine ⟨hI.1, fun n b k A q => ?_⟩
    obtain ⟨i, b', k', A', h1, h2, h3, h4, h5, h6⟩ := hI.2 n b k A q
    have hbn := h3.2.1
    have hn := h3.2.2.1
    rw [h1, show (600 : Int32) = Int32.ofNat 600 from rfl, n32_le (by omega) (by omega)] at c
    refine fin sort S T n b' k' k b A A' (fx18 hI.1) ?_ h4 h6
    unfold tk_k
    rw [if_neg (by have := tk_s_ge (T := T.1 18) (n := n) (b := b'); omega)]
  · intro sort S x T hI c1 c
    refine ⟨hI.1, fun n b k A q => ?_⟩
    obtain ⟨i, b', k', A', h1, h2, h3, h4, h5, h6⟩ := hI.2 n b k A q
    exact fin sort S T n b' k' k b A A' (fx18 hI.1) (h3.k0 c) h4 h6
  · intro sort S x T hI c1 c2 r U hU r2 V hV c3 W hW
    obtain ⟨eU, hU⟩ : U = T ∧ _ := ⟨hU.1, hU⟩
    subst eU
    have F : ex_fx pP37 S W := (hI.1.trans hV.1).trans (hW.1.mono (fun a k z => by unfold pP37; omega))
    refine ⟨F, fun n b k A q => ?_⟩
    obtain ⟨i, b', k', A', h1, h2, h3, h4, h5, h6⟩ := hI.2 n b k A q
    have kv : ex_KV U := KV_fx hI.1 (fun a k z => by unfold pP37 at z; omega) q.2.2.1
    have e18 := fx18 hI.1
    have er := hU.2 kv n b' h3
    have hk0 : ¬ tk_k (U.1 18) n b' = 0 := h3.kn c2
    rw [e18] at er hk0
    rcases pfw_r sort (S.1 18) n b' with e | ⟨w, hw, e⟩
    · exact absurd (hV.2.1 (er.trans e)).1 c3
    · have q37 : pq37 U w n b' A' := ⟨hw, h3, h4, kv, by rw [hI.1.2]; exact q.2.2.2.1⟩
      obtain ⟨g1, g2⟩ := hV.2.2 w n b' A' (er.trans e) q37
      rw [e18] at g1 g2
      cases hf : pl_fail (S.1 18) n w (tk_e (S.1 18) n b') with
      | some p => exact absurd (g1 p hf).1 c3
      | none =>
        obtain ⟨_, g3, g4⟩ := g2 hf
        have gt := tk_e_gt hk0
        have ge1 := tk_s_ge (T := S.1 18) (n := n) (b := b')
        have ge2 := pl_end_ge (T := S.1 18) (n := n) (w := w) (b := tk_e (S.1 18) n b')
        refine ⟨i + 1, pl_end (S.1 18) n w (tk_e (S.1 18) n b'), k' - 1, pline (S.1 18) n w (tk_s (S.1 18) n b') (tk_e (S.1 18) n b') A', by rw [h1, n32_s], by omega, hW.tok g3, hW.ra g4, by omega, ?_⟩
        rw [← h6]
        have hbn := h3.2.1
        obtain ⟨m, rfl⟩ : ∃ m, k' = m + 1 := ⟨k' - 1, by omega⟩
        show _ = if tk_k (S.1 18) n b' = 0 then _ else if pfw sort (S.1 18) n b' = -1 then _ else match pl_fail (S.1 18) n (pfw sort (S.1 18) n b').toNatClampNeg (tk_e (S.1 18) n b') with | some p => Sum.inl p | none => ps_run sort (S.1 18) n m (pl_end (S.1 18) n (pfw sort (S.1 18) n b').toNatClampNeg (tk_e (S.1 18) n b')) (pline (S.1 18) n (pfw sort (S.1 18) n b').toNatClampNeg (tk_s (S.1 18) n b') (tk_e (S.1 18) n b') A')
        rw [if_neg hk0, e, if_neg (n32_m1 (by omega)), n32_tn (by omega), hf]
        rfl
  · intro sort S x T hI c1 c2 r U hU r2 V hV c3
    obtain ⟨eU, hU⟩ : U = T ∧ _ := ⟨hU.1, hU⟩
    subst eU
    refine ⟨hI.1.trans hV.1, fun n b k A q => ?_⟩
    obtain ⟨i, b', k', A', h1, h2, h3, h4, h5, h6⟩ := hI.2 n b k A q
    have kv : ex_KV U := KV_fx hI.1 (fun a k z => by unfold pP37 at z; omega) q.2.2.1
    have e18 := fx18 hI.1
    have er := hU.2 kv n b' h3
    have hk0 : ¬ tk_k (U.1 18) n b' = 0 := h3.kn c2
    rw [e18] at er hk0
    have hbn := h3.2.1
    have c3' := Classical.not_not.mp c3
    obtain ⟨m, rfl⟩ : ∃ m, k' = m + 1 := ⟨k' - 1, by omega⟩
    have un : ps_run sort (S.1 18) n (m + 1) b' A' = if tk_k (S.1 18) n b' = 0 then Sum.inr A' else if pfw sort (S.1 18) n b' = -1 then Sum.inl (tk_s (S.1 18) n b') else match pl_fail (S.1 18) n (pfw sort (S.1 18) n b').toNatClampNeg (tk_e (S.1 18) n b') with | some p => Sum.inl p | none => ps_run sort (S.1 18) n m (pl_end (S.1 18) n (pfw sort (S.1 18) n b').toNatClampNeg (tk_e (S.1 18) n b')) (pline (S.1 18) n (pfw sort (S.1 18) n b').toNatClampNeg (tk_s (S.1 18) n b') (tk_e (S.1 18) n b') A') := rfl
    rcases pfw_r sort (S.1 18) n b' with e | ⟨w, hw, e⟩
    · have eV := (hV.2.1 (er.trans e)).2
      rw [← h6, un, if_neg hk0, if_pos e]
      refine ⟨fun p z => ?_, fun A'' z => (by cases z)⟩
      cases z
      refine ⟨rfl, ?_⟩
      rw [eV, h3.2.2.2.1, e18]
    · have q37 : pq37 U w n b' A' := ⟨hw, h3, h4, kv, by rw [hI.1.2]; exact q.2.2.2.1⟩
      obtain ⟨g1, g2⟩ := hV.2.2 w n b' A' (er.trans e) q37
      rw [e18] at g1 g2
      cases hf : pl_fail (S.1 18) n w (tk_e (S.1 18) n b') with
      | none => exact absurd c3' (by rw [(g2 hf).1]; decide)
      | some p =>
        rw [← h6, un, if_neg hk0, e, if_neg (n32_m1 (by omega)), n32_tn (by omega), hf]
        refine ⟨fun p' z => ?_, fun A'' z => (by cases z)⟩
        cases z
        exact ⟨rfl, (g1 p hf).2⟩
/-- what the class's reader holds of a ROW -/
def rr (S : ex_S) (A : pA) : Prop := S.1 25 1 = pf A ∧ S.1 25 2 = pp A ∧ (pf A = 0 → S.1 25 4 = Int32.ofNat (pic A) ∧ pic A ≤ 12 ∧ ∀ k, k < pic A → S.1 26 k = pit A k 0)
theorem rr.keep {S S' : ex_S} {A : pA} (h : rr S A) (h5 : ∀ k, S'.1 25 k = S.1 25 k) (h6 : ∀ k, S'.1 26 k = S.1 26 k) : rr S' A := by
  obtain ⟨a, b, c⟩ := h
  refine ⟨by rw [h5]; exact a, by rw [h5]; exact b, fun z => ?_⟩
  obtain ⟨c1, c2, c3⟩ := c z
  exact ⟨by rw [h5]; exact c1, c2, fun k hk => by rw [h6]; exact c3 k hk⟩
theorem cc21.rr {f p : Int32} {S S' : ex_S} {A : pA} (h : cc21 f p S S') (r : rr S A) (hf : f ≠ 0) : rr S' (pnote A true f p) := by
  unfold cc21 at h
  unfold pnote
  by_cases h0 : pf A = 0
  · rw [if_pos ⟨h0, rfl⟩]
    rw [if_pos (by rw [r.1]; exact h0)] at h
    subst h
    exact ⟨rfl, rfl, fun z => absurd z hf⟩
  · rw [if_neg (fun z => h0 z.1)]
    rw [if_neg (by rw [r.1]; exact h0)] at h
    rw [h]; exact r
theorem cc16.rr {S S' : ex_S} {A : pA} (h : cc16 S S') (r : rr S A) : rr S' A := r.keep (fun k => h.1.1 25 k (by omega)) (fun k => h.1.1 26 k (by omega))
/-- where there is a FAULT already, what else is written does not matter -/
theorem rr.fault {S S' : ex_S} {A : pA} (h : rr S A) (h0 : pf A ≠ 0) (h1 : S'.1 25 1 = S.1 25 1) (h2 : S'.1 25 2 = S.1 25 2) : rr S' A := ⟨by rw [h1]; exact h.1, by rw [h2]; exact h.2.1, fun z => absurd z h0⟩
theorem pnote_ne {A : pA} {c : Bool} {f p : Int32} (h : pf A ≠ 0) : pnote A c f p = A := if_neg (fun z => h z.1)
theorem pr_0 {T : Nat → Int32} {n k b : Nat} {A : pA} (h : tk_k T n b = 0) : pr_run T n k b A = .inr A := by
  cases k with
  | zero => rfl
  | succ k => exact if_pos h
def cq15 (S : ex_S) (n b k : Nat) (A : pA) : Prop := tc_at S n b ∧ rr S A ∧ n < b + k
def cc15 (S : ex_S) (v : Int32) (S' : ex_S) : Prop := ex_fx pP37 S S' ∧ ∀ n b k A, cq15 S n b k A → (∀ p, pr_run (S.1 18) n k b A = .inl p → v = 0 ∧ S'.1 30 3 = Int32.ofNat p) ∧ (∀ A', pr_run (S.1 18) n k b A = .inr A' → v = 1 ∧ rr S' A')
def ci15 (S : ex_S) (x : Int32) (T : ex_S) : Prop := ex_fx pP37 S T ∧ ∀ n b k A, cq15 S n b k A → ∃ i b' k' A', x = Int32.ofNat i ∧ i ≤ b' ∧ ctok T n b' ∧ rr T A' ∧ n < b' + k' ∧ pr_run (S.1 18) n k' b' A' = pr_run (S.1 18) n k b A
/-- one NUMBER of a ROW -/
theorem ci15_one {S T U W : ex_S} {x : Int32} (hI : ci15 S x T) (c1 : ¬ 600 ≤ x) (c2 : T.1 30 4 = 2) (FU : ex_fx pP37 T U) (t2 : U.1 30 2 = T.1 30 2) (hW : cc16 U W) (hr : ∀ n b' A', ctok T n b' → rr T A' → T.1 30 5 = tk_v (T.1 18) n b' → rr U (pr_one (T.1 18) n b' A')) : ci15 S (x + 1) W := by
  refine ⟨(hI.1.trans FU).trans (hW.1.mono (fun a k z => by unfold pP37; omega)), fun n b k A q => ?_⟩
  obtain ⟨i, b', k', A', h1, h2, h3, h4, h5, h6⟩ := hI.2 n b k A q
  have e18 := fx18 hI.1
  have hk2 : tk_k (T.1 18) n b' = 2 := by
    have := tk_k4 (T := T.1 18) (n := n) (b := b')
    have h4 := h3.2.2.2.2.2.1
    rw [c2] at h4
    exact ((n32_eq (by decide) (by omega)).mp ((show (Int32.ofNat 2 : Int32) = 2 from rfl).trans h4)).symm
  have gt := tk_e_gt (T := T.1 18) (n := n) (b := b') (by omega)
  have ge1 := tk_s_ge (T := T.1 18) (n := n) (b := b')
  have hbn := h3.2.1
  have tU : tc_at U n (tk_e (T.1 18) n b') := ⟨(FU.1 30 1 (by unfold pP37; omega)).trans h3.1, t2.trans h3.2.2.2.2.1, tk_e_le h3.2.1, h3.2.2.1⟩
  refine ⟨i + 1, tk_e (T.1 18) n b', k' - 1, pr_one (T.1 18) n b' A', by rw [h1, n32_s], by omega, hW.tok tU, hW.rr (hr n b' A' h3 h4 (h3.2.2.2.2.2.2 hk2)), by omega, ?_⟩
  rw [← h6]
  obtain ⟨m, rfl⟩ : ∃ m, k' = m + 1 := ⟨k' - 1, by omega⟩
  rw [e18] at hk2 ⊢
  show _ = if tk_k (S.1 18) n b' = 0 then _ else if tk_k (S.1 18) n b' = 2 then pr_run (S.1 18) n m (tk_e (S.1 18) n b') (pr_one (S.1 18) n b' A') else _
  rw [if_neg (by omega), if_pos hk2]
  rfl
theorem ec15 : es15 cc15 := by
  have fin : ∀ (S T : ex_S) (n b' k' k b : Nat) (A A' : pA), T.1 18 = S.1 18 → tk_k (T.1 18) n b' = 0 → rr T A' → pr_run (S.1 18) n k' b' A' = pr_run (S.1 18) n k b A → (∀ p, pr_run (S.1 18) n k b A = .inl p → (1 : Int32) = 0 ∧ T.1 30 3 = Int32.ofNat p) ∧ (∀ A'', pr_run (S.1 18) n k b A = .inr A'' → (1 : Int32) = 1 ∧ rr T A'') := by
    intro S T n b' k' k b A A' e18 h0 r e
    rw [e18] at h0
    rw [← e, pr_0 h0]
    exact ⟨fun p z => (by cases z), fun A'' z => (by cases z; exact ⟨rfl, r⟩)⟩
  have big : ∀ (S T : ex_S) (x : Int32), ci15 S x T → 600 ≤ x → ∀ n b k A, cq15 S n b k A → ∃ b' k' A', ctok T n b' ∧ rr T A' ∧ tk_k (T.1 18) n b' = 0 ∧ pr_run (S.1 18) n k' b' A' = pr_run (S.1 18) n k b A := by
    intro S T x hI c n b k A q
    obtain ⟨i, b', k', A', h1, h2, h3, h4, h5, h6⟩ := hI.2 n b k A q
    have hbn := h3.2.1
    have hn := h3.2.2.1
    rw [h1, show (600 : Int32) = Int32.ofNat 600 from rfl, n32_le (by omega) (by omega)] at c
    refine ⟨b', k', A', h3, h4, ?_, h6⟩
    unfold tk_k
    rw [if_neg (by have := tk_s_ge (T := T.1 18) (n := n) (b := b'); omega)]
  refine ev15 (I9 := ci15) ec16 ec21 ?_ ?_ ?_ ?_ ?_ ?_ ?_ ?_ ?_
  · intro S U hU
    exact ⟨hU.1.mono (fun a k z => by unfold pP37; omega), fun n b k A q => ⟨0, b, k, A, rfl, Nat.zero_le _, hU.tok q.1, hU.rr q.2.1, q.2.2, rfl⟩⟩
  · intro S x T hI c1 c2
    refine ⟨hI.1, fun n b k A q => ?_⟩
    obtain ⟨b', k', A', g1, g2, g3, g4⟩ := big S T x hI c1 n b k A q
    exact absurd (by rw [g1.2.2.2.2.2.1, g3]; rfl) c2
  · intro S x T hI c1 c2
    refine ⟨hI.1, fun n b k A q => ?_⟩
    obtain ⟨b', k', A', g1, g2, g3, g4⟩ := big S T x hI c1 n b k A q
    exact fin S T n b' k' k b A A' (fx18 hI.1) g3 g2 g4
  · intro S x T hI c1 c2 c3
    refine ⟨hI.1, fun n b k A q => ?_⟩
    obtain ⟨i, b', k', A', h1, h2, h3, h4, h5, h6⟩ := hI.2 n b k A q
    have e18 := fx18 hI.1
    have hk0 : ¬ tk_k (T.1 18) n b' = 0 := h3.kn c3
    have hk2 : ¬ tk_k (T.1 18) n b' = 2 := h3.kn c2
    have hbn := h3.2.1
    obtain ⟨m, rfl⟩ : ∃ m, k' = m + 1 := ⟨k' - 1, by omega⟩
    rw [e18] at hk0 hk2
    have un : pr_run (S.1 18) n (m + 1) b' A' = .inl (tk_s (S.1 18) n b') := by
      show (if tk_k (S.1 18) n b' = 0 then Sum.inr A' else if tk_k (S.1 18) n b' = 2 then _ else _) = _
      rw [if_neg hk0, if_neg hk2]
    rw [← h6, un]
    refine ⟨fun p z => ?_, fun A'' z => (by cases z)⟩
    cases z
    exact ⟨rfl, by rw [h3.2.2.2.1, e18]⟩
  · intro S x T hI c1 c2 c3
    refine ⟨hI.1, fun n b k A q => ?_⟩
    obtain ⟨i, b', k', A', h1, h2, h3, h4, h5, h6⟩ := hI.2 n b k A q
    exact fin S T n b' k' k b A A' (fx18 hI.1) (h3.k0 (Classical.not_not.mp c3)) h4 h6
  · intro S x T hI c1 c2 c3 c4 W hW
    refine ci15_one hI c1 (Classical.not_not.mp c2) (((ex_fx.refl _ T).sx (by unfold pP37; omega)).sx (by unfold pP37; omega)) (by rw [ex_sx_ne (by omega), ex_sx_ne (by omega)]) hW (fun n b' A' h3 r ev => ?_)
    rw [ev] at c3
    unfold pr_one
    have d10 : decide (10 ≤ tk_v (T.1 18) n b') = false := decide_eq_false (Int32.not_le.mpr c3)
    rw [d10, pnote_f]
    by_cases h0 : pf A' = 0
    · obtain ⟨r1, r2, r3⟩ := r.2.2 h0
      rw [r1, show (12 : Int32) = Int32.ofNat 12 from rfl, n32_lt (by omega) (by omega)] at c4
      have d12 : decide (12 ≤ pic A') = false := decide_eq_false (by omega)
      rw [d12, pnote_f, if_pos h0]
      refine ⟨r.1, r.2.1, fun _ => ⟨?_, ?_, fun k hk => ?_⟩⟩
      · rw [ex_sx_eq, r1, n32_s]; rfl
      · show pic A' + 1 ≤ 12
        omega
      · have hk' : k < pic A' + 1 := hk
        show (ex_sx (ex_sx T 26 _ _) 25 4 _).1 26 k = if k = pic A' then tk_v (T.1 18) n b' else pit A' k 0
        rw [ex_sx_ne (by omega), ex_sx_at, r1, n32_tn (by omega), ev]
        by_cases hkk : k = pic A'
        · rw [if_pos ⟨rfl, hkk⟩, if_pos hkk]
        · rw [if_neg (fun z => hkk z.2), if_neg hkk]; exact r3 k (by omega)
    · rw [pnote_ne h0, if_neg h0]
      exact r.fault h0 (by rw [ex_sx_ne (by omega), ex_sx_ne (by omega)]) (by rw [ex_sx_ne (by omega), ex_sx_ne (by omega)])
  · intro S x T hI c1 c2 c3 c4 U hU W hW
    refine ci15_one hI c1 (Classical.not_not.mp c2) (hU.fx.mono (fun a k z => by unfold pP37; omega)) (hU.fx.1 30 2 (by omega)) hW (fun n b' A' h3 r ev => ?_)
    rw [ev] at c3
    unfold pr_one
    have d10 : decide (10 ≤ tk_v (T.1 18) n b') = false := decide_eq_false (Int32.not_le.mpr c3)
    rw [d10, pnote_f]
    have r' := hU.rr r (by decide)
    rw [h3.2.2.2.1] at r'
    by_cases h0 : pf A' = 0
    · obtain ⟨r1, r2, r3⟩ := r.2.2 h0
      rw [r1, show (12 : Int32) = Int32.ofNat 12 from rfl, n32_lt (by omega) (by omega)] at c4
      have d12 : decide (12 ≤ pic A') = true := decide_eq_true (by omega)
      rw [d12]
      have nf : ¬ pf (pnote A' true 3 (Int32.ofNat (tk_s (T.1 18) n b'))) = 0 := by
        unfold pnote; rw [if_pos ⟨h0, rfl⟩]; show ¬ (3 : Int32) = 0; decide
      rw [if_neg nf]; exact r'
    · rw [pnote_ne h0] at r' ⊢
      rw [if_neg h0]; exact r'
  · intro S x T hI c1 c2 c3 U hU c4 W hW
    refine ci15_one hI c1 (Classical.not_not.mp c2) (((hU.fx.mono (fun a k z => by unfold pP37; omega)).sx (by unfold pP37; omega)).sx (by unfold pP37; omega)) (by rw [ex_sx_ne (by omega), ex_sx_ne (by omega)]; exact hU.fx.1 30 2 (by omega)) hW (fun n b' A' h3 r ev => ?_)
    rw [ev] at c3
    unfold pr_one
    have d10 : decide (10 ≤ tk_v (T.1 18) n b') = true := decide_eq_true (Int32.not_lt.mp c3)
    rw [d10]
    have r' := hU.rr r (by decide)
    rw [h3.2.2.2.1] at r'
    have nf : pf (pnote A' true 2 (Int32.ofNat (tk_s (T.1 18) n b'))) ≠ 0 := by
      unfold pnote
      by_cases h0 : pf A' = 0
      · rw [if_pos ⟨h0, rfl⟩]; show ¬ (2 : Int32) = 0; decide
      · rw [if_neg (fun z => h0 z.1)]; exact h0
    rw [pnote_ne nf, if_neg nf]
    exact r'.fault nf (by rw [ex_sx_ne (by omega), ex_sx_ne (by omega)]) (by rw [ex_sx_ne (by omega), ex_sx_ne (by omega)])
  · intro S x T hI c1 c2 c3 U hU c4 V hV W hW
    refine ci15_one hI c1 (Classical.not_not.mp c2) ((hU.fx.trans hV.fx).mono (fun a k z => by unfold pP37; omega)) ((hV.fx.1 30 2 (by omega)).trans (hU.fx.1 30 2 (by omega))) hW (fun n b' A' h3 r ev => ?_)
    rw [ev] at c3
    unfold pr_one
    have d10 : decide (10 ≤ tk_v (T.1 18) n b') = true := decide_eq_true (Int32.not_lt.mp c3)
    rw [d10]
    have r' := hU.rr r (by decide)
    rw [h3.2.2.2.1] at r'
    have nf : pf (pnote A' true 2 (Int32.ofNat (tk_s (T.1 18) n b'))) ≠ 0 := by
      unfold pnote
      by_cases h0 : pf A' = 0
      · rw [if_pos ⟨h0, rfl⟩]; show ¬ (2 : Int32) = 0; decide
      · rw [if_neg (fun z => h0 z.1)]; exact h0
    have r2 := hV.rr r' (by decide)
    rw [pnote_ne nf] at r2 ⊢
    rw [if_neg nf]; exact r2
