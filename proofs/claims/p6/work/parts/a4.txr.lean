/-! WHAT A TEXT LEAVES in the reference -/
def rwdt (s : Int32) : Nat := if s = 0 then 100 else if s = 1 then 13 else if s = 2 then 152 else 25
def rxDA (s at_ : Int32) (A : pA) (S : ex_S) (v : Int32) (S' : ex_S) : Prop := (¬ (txok s at_ (S.1 46 s.toNatClampNeg) (vf176 s) ∧ pf A = 0) → ∀ c k, 47 ≤ c → c ≤ 50 → S'.1 c k = S.1 c k) ∧ (txok s at_ (S.1 46 s.toNatClampNeg) (vf176 s) → pf A = 0 → ∃ U : ex_S, rqT s U A ∧ v.toNatClampNeg ≤ 3 ∧ ∀ c k, 47 ≤ c → c ≤ 50 → S'.1 c k = if c = 28 + cxi s then sti (S.1 c) (U.1 51) (rwdt s) v.toNatClampNeg (rwdt s) k else S.1 c k)
def rxD (s at_ : Int32) (S : ex_S) (v : Int32) (S' : ex_S) : Prop := ∀ n, rxq S n → rxDA s at_ (ps_text s (S.1 42) n) S v S'
theorem n32_nm {w : Nat} (hw : w < 2147483648) : ¬ Int32.ofNat w = -1 := fun y => by
  have := congrArg Int32.toInt y
  rw [n32_i hw] at this
  have e1 : (-1 : Int32).toInt = -1 := rfl
  omega
theorem rd_no {s at_ : Int32} {S : ex_S} (h : ∀ n, rxq S n → ¬ txok s at_ (S.1 46 s.toNatClampNeg) (vf176 s)) : rxD s at_ S (-2) (rx0 S) :=
  fun n q => ⟨fun _ c k _ _ => (rx0_fx S).1 c k (by omega), fun z => absurd z (h n q)⟩
theorem rd_rd {s r : Int32} {S S9 : ex_S} (h : rc178 s (rx0 S) r S9) : (∀ c k, 46 ≤ c → c ≤ 50 → S9.1 c k = S.1 c k) ∧ ∀ n, rxq S n → (r = 0 ↔ pf (ps_text s (S.1 42) n) ≠ 0) ∧ (pf (ps_text s (S.1 42) n) = 0 → rqT s S9 (ps_text s (S.1 42) n)) := by
  refine ⟨fun c k h1 h2 => ?_, fun n q => ?_⟩
  · rw [h.1.1 c k (by unfold rpt rpl; omega)]; exact (rx0_fx S).1 c k (by omega)
  · obtain ⟨q1, e⟩ := rx_q q
    have g := h.2 n q1
    rw [e] at g
    exact ⟨g.2.2.2.1, g.2.2.2.2⟩
theorem rd_bad {s at_ r : Int32} {S S9 : ex_S} (h : rc178 s (rx0 S) r S9) (c : r = 0) : rxD s at_ S (-1) S9 := by
  obtain ⟨F, g⟩ := rd_rd h
  intro n q
  exact ⟨fun _ c k h1 h2 => F c k (by omega) h2, fun _ z => absurd z ((g n q).1.mp c)⟩
theorem rd_good {s at_ r v w d : Int32} {S S9 S' : ex_S} {b : Nat} (ok : ∀ n, rxq S n → txok s at_ (S.1 46 s.toNatClampNeg) (vf176 s)) (h : rc178 s (rx0 S) r S9) (c : ¬ r = 0) (hb : b = 28 + cxi s) (hw : w = Int32.ofNat (rwdt s)) (h2 : stC b w v (ex_sx S9 46 s.toNatClampNeg ((S9.1 46 s.toNatClampNeg) + d)) S') (hv : ∀ n, rxq S n → 0 ≤ v ∧ v ≤ 3) : rxD s at_ S v S' := by
  obtain ⟨F, g⟩ := rd_rd h
  intro n q
  obtain ⟨g1, g2⟩ := g n q
  have pz : pf (ps_text s (S.1 42) n) = 0 := Classical.not_not.mp (fun z => c (g1.mpr z))
  obtain ⟨l4, ev⟩ := s4_of (hv n q)
  have b47 : 47 ≤ b ∧ b ≤ 50 := by
    rw [hb]
    unfold cxi
    split
    · omega
    · split
      · omega
      · split <;> omega
  have wl : rwdt s ≤ 700 := by
    unfold rwdt
    split
    · omega
    · split
      · omega
      · split <;> omega
  have st := h2.2 (rwdt s) v.toNatClampNeg hw ev wl (by omega) (by omega)
  refine ⟨fun z => absurd ⟨ok n q, pz⟩ z, fun _ _ => ⟨S9, g2 pz, by omega, fun c k h1 h3 => ?_⟩⟩
  by_cases y : c = 28 + cxi s
  · rw [if_pos y]
    rw [y, ← hb, st]
    have e1 : (ex_sx S9 46 s.toNatClampNeg ((S9.1 46 s.toNatClampNeg) + d)).1 b = S.1 b := by
      funext j
      rw [ex_sx_ne (by omega)]; exact F b j (by omega) (by omega)
    have e2 : (ex_sx S9 46 s.toNatClampNeg ((S9.1 46 s.toNatClampNeg) + d)).1 51 = S9.1 51 := by
      funext j
      exact ex_sx_ne (by omega)
    rw [e1, e2]
  · rw [if_neg y, h2.1.1 c k (by omega), ex_sx_ne (by omega)]
    exact F c k (by omega) h3
theorem rd_v1 {s a : Int32} {S : ex_S} (ok : ∀ n, rxq S n → txok s a (S.1 46 s.toNatClampNeg) (vf176 s)) (c1 : ¬ a = -1) : ∀ n, rxq S n → 0 ≤ a ∧ a ≤ 3 := fun n q => by
  have z := ok n q
  obtain ⟨z1, z2⟩ := z.2.2.2 c1
  have b := (q.2.2.2 _ (s4_of ⟨z.1, z.2.1⟩).1).1.2
  have l := Int32.lt_iff_toInt_lt.mp z2
  refine ⟨z1, Int32.le_iff_toInt_le.mpr ?_⟩
  rw [show (3 : Int32).toInt = 3 from rfl]
  omega
theorem rd_v2 {s a r : Int32} {S S9 : ex_S} (ok : ∀ n, rxq S n → txok s a (S.1 46 s.toNatClampNeg) (vf176 s)) (h : rc178 s (rx0 S) r S9) : ∀ n, rxq S n → 0 ≤ S9.1 46 s.toNatClampNeg ∧ S9.1 46 s.toNatClampNeg ≤ 3 := fun n q => by
  have z := ok n q
  rw [(rd_rd h).1 46 _ (by omega) (by omega)]
  have b := (q.2.2.2 _ (s4_of ⟨z.1, z.2.1⟩).1).1
  refine ⟨Int32.le_iff_toInt_le.mpr ?_, Int32.le_iff_toInt_le.mpr ?_⟩
  · rw [show (0 : Int32).toInt = 0 from rfl]; exact b.1
  · rw [show (3 : Int32).toInt = 3 from rfl]; exact b.2
theorem rd_c0 {s : Int32} (e : s = 0) : 47 = 28 + cxi s ∧ (100 : Int32) = Int32.ofNat (rwdt s) := by
  subst e; exact ⟨by decide, by decide⟩
theorem rd_c1 {s : Int32} (e : s = 1) : 48 = 28 + cxi s ∧ (13 : Int32) = Int32.ofNat (rwdt s) := by
  subst e; exact ⟨by decide, by decide⟩
theorem rd_c2 {s : Int32} (e : s = 2) : 49 = 28 + cxi s ∧ (152 : Int32) = Int32.ofNat (rwdt s) := by
  subst e; exact ⟨by decide, by decide⟩
theorem rd_c3 {s : Int32} (e0 : ¬ s = 0) (e1 : ¬ s = 1) (e2 : ¬ s = 2) : 50 = 28 + cxi s ∧ (25 : Int32) = Int32.ofNat (rwdt s) := by
  unfold cxi rwdt
  rw [if_neg e0, if_neg e1, if_neg e2, if_neg e0, if_neg e1, if_neg e2]
  exact ⟨by decide, by decide⟩
theorem ec175d : es175 rxD := by
  refine ev175 ec178 ec193 ?_ ?_ ?_ ?_ ?_ ?_ ?_ ?_ ?_ ?_ ?_ ?_ ?_
  · intro s a S c
    exact rd_no (fun n q z => vf174_n c ⟨z.1, z.2.1⟩)
  · intro s a S c c1 c2 r S9 h9 c3 e S' h'
    exact rd_good (rx_ok1 c c1 c2) h9 c3 (rd_c0 e).1 (rd_c0 e).2 h' (rd_v1 (rx_ok1 c c1 c2) c1)
  · intro s a S c c1 c2 r S9 h9 c3 _ e S' h'
    exact rd_good (rx_ok1 c c1 c2) h9 c3 (rd_c1 e).1 (rd_c1 e).2 h' (rd_v1 (rx_ok1 c c1 c2) c1)
  · intro s a S c c1 c2 r S9 h9 c3 _ _ e S' h'
    exact rd_good (rx_ok1 c c1 c2) h9 c3 (rd_c2 e).1 (rd_c2 e).2 h' (rd_v1 (rx_ok1 c c1 c2) c1)
  · intro s a S c c1 c2 r S9 h9 c3 e0 e1 e2 S' h'
    exact rd_good (rx_ok1 c c1 c2) h9 c3 (rd_c3 e0 e1 e2).1 (rd_c3 e0 e1 e2).2 h' (rd_v1 (rx_ok1 c c1 c2) c1)
  · intro s a S c c1 c2 r S9 h9 c3
    exact rd_bad h9 (Classical.not_not.mp c3)
  · intro s a S c c1 c2
    refine rd_no (fun n q z => vf174_n (Classical.not_not.mp c2) ?_)
    exact (rx_at (s := s) (q.2.2.2 _ (s4_of (vf174_y c)).1).1).mpr (z.2.2.2 c1)
  · intro s a S c c1 c2 r S9 h9 c3 e S' h'
    have ok := rx_ok2 c (Classical.not_not.mp c1) c2
    exact rd_good ok h9 c3 (rd_c0 e).1 (rd_c0 e).2 h' (rd_v2 ok h9)
  · intro s a S c c1 c2 r S9 h9 c3 _ e S' h'
    have ok := rx_ok2 c (Classical.not_not.mp c1) c2
    exact rd_good ok h9 c3 (rd_c1 e).1 (rd_c1 e).2 h' (rd_v2 ok h9)
  · intro s a S c c1 c2 r S9 h9 c3 _ _ e S' h'
    have ok := rx_ok2 c (Classical.not_not.mp c1) c2
    exact rd_good ok h9 c3 (rd_c2 e).1 (rd_c2 e).2 h' (rd_v2 ok h9)
  · intro s a S c c1 c2 r S9 h9 c3 e0 e1 e2 S' h'
    have ok := rx_ok2 c (Classical.not_not.mp c1) c2
    exact rd_good ok h9 c3 (rd_c3 e0 e1 e2).1 (rd_c3 e0 e1 e2).2 h' (rd_v2 ok h9)
  · intro s a S c c1 c2 r S9 h9 c3
    exact rd_bad h9 (Classical.not_not.mp c3)
  · intro s a S c c1 c2
    have c1 := Classical.not_not.mp c1
    have c2 := Classical.not_not.mp c2
    refine rd_no (fun n q z => ?_)
    have l := z.2.2.1 c1
    rw [c2] at l
    exact Int32.lt_irrefl l
/-! a MEAL's away is told without a second number -/
def aw (A : pA) : Prop := ∀ k, k < pic A → pit A k 0 = 1 → pit A k 2 = -1
theorem aw_22 {A B : pA} (e : B.2.2 = A.2.2) (h : aw A) : aw B := by
  have e1 : pic B = pic A := congrArg (fun x => x.1) e
  have e2 : pit B = pit A := congrArg (fun x => x.2.1) e
  intro k hk
  rw [e1] at hk
  rw [e2]
  exact h k hk
theorem pnote_22 (A : pA) (c : Bool) (f p : Int32) : (pnote A c f p).2.2 = A.2.2 := by
  unfold pnote
  split <;> rfl
theorem pan_22 (T : Nat → Int32) (n w b : Nat) (A : pA) (i : Nat) : (pan T n w b A i).2.2 = A.2.2 := by
  induction i with
  | zero => rfl
  | succ i ih => exact (pnote_22 _ _ _ _).trans ih
theorem aw_keep {w : Nat} {l : Nat → Int32} {A : pA} (h3 : 3 ≤ w) (h6 : w ≤ 6) (hl : w = 5 → l 1 = -1) (h : aw A) : aw (pkeep w l A) := by
  by_cases w4 : 4 ≤ w
  · rw [pkeep_4 w4]
    intro k hk h0
    have hk : k < pic A + 1 := hk
    have h0 : (if k = pic A then (if (0 : Nat) = 0 then pkt w else l (0 - 1)) else pit A k 0) = 1 := h0
    show (if k = pic A then (if (2 : Nat) = 0 then pkt w else l (2 - 1)) else pit A k 2) = -1
    by_cases e : k = pic A
    · rw [if_pos e, if_pos rfl] at h0
      rw [if_pos e, if_neg (by decide)]
      refine hl ?_
      rcases (show w = 4 ∨ w = 5 ∨ w = 6 by omega) with z | z | z
      · subst z; exact absurd h0 (by decide)
      · exact z
      · subst z; exact absurd h0 (by decide)
    · rw [if_neg e] at h0 ⊢
      exact h k (by omega) h0
  · have : w = 3 := by omega
    subst this
    rw [pkeep_3]
    exact h
theorem aw_line {T : Nat → Int32} {n w s b : Nat} {A : pA} (h3 : 3 ≤ w) (h6 : w ≤ 6) (h : aw A) : aw (pline T n w s b A) := by
  have h1 : aw (pan T n w b (pnote A (pmany w A) 3 (Int32.ofNat s)) (pnl w)) := aw_22 ((pan_22 _ _ _ _ _ _).trans (pnote_22 _ _ _ _)) h
  unfold pline
  split
  · refine aw_keep h3 h6 (fun z => ?_) h1
    subst z
    unfold pll
    rw [if_neg (by decide), if_neg (by decide)]
  · exact h1
theorem aw_run (T : Nat → Int32) (n : Nat) : ∀ (k b : Nat) (A A' : pA), aw A → ps_run 2 T n k b A = .inr A' → aw A'
  | 0, _, A, A', h, e => by
    have e : (Sum.inr A : Nat ⊕ pA) = .inr A' := e
    cases e; exact h
  | k + 1, b, A, A', h, e => by
    rw [ps_un] at e
    split at e
    · cases e; exact h
    · split at e
      · cases e
      · rename_i hw
        split at e
        · cases e
        · refine aw_run T n k _ _ A' (aw_line ?_ ?_ h) e
          · rcases pws_8 T n b with z | ⟨w, w3, z⟩
            · exact absurd (show pfw 2 T n b = -1 by unfold pfw; rw [show pwt 2 = 8 from rfl, if_pos z]) hw
            · have ez : pfw 2 T n b = Int32.ofNat (3 + w) := by
                unfold pfw
                rw [show pwt 2 = 8 from rfl, if_neg (fun y => n32_nm (by omega) (z.symm.trans y)), z, show pwb 2 = Int32.ofNat 3 from rfl, n32_add]
              rw [ez, n32_tn (by omega)]
              omega
          · rcases pws_8 T n b with z | ⟨w, w3, z⟩
            · exact absurd (show pfw 2 T n b = -1 by unfold pfw; rw [show pwt 2 = 8 from rfl, if_pos z]) hw
            · have ez : pfw 2 T n b = Int32.ofNat (3 + w) := by
                unfold pfw
                rw [show pwt 2 = 8 from rfl, if_neg (fun y => n32_nm (by omega) (z.symm.trans y)), z, show pwb 2 = Int32.ofNat 3 from rfl, n32_add]
              rw [ez, n32_tn (by omega)]
              omega
theorem aw_text (T : Nat → Int32) (n : Nat) : aw (ps_text 2 T n) := by
  unfold ps_text
  split
  · intro k hk
    exact absurd hk (Nat.not_lt_zero k)
  · rename_i A e
    refine aw_22 (pnote_22 _ _ _ _) ?_
    unfold ps_all at e
    rw [if_neg (by decide)] at e
    exact aw_run T n 601 0 pA0 A (fun k hk => absurd hk (Nat.not_lt_zero k)) e
/-! a LIST's acts are told as one of five words -/
theorem pws_10 (T : Nat → Int32) (n b : Nat) : pws 10 T n b = -1 ∨ ∃ w, w ≤ 4 ∧ pws 10 T n b = Int32.ofNat w := by
  unfold pws
  split
  · rw [wa_10]
    split
    · exact Or.inr ⟨0, by decide, rfl⟩
    · split
      · exact Or.inr ⟨1, by decide, rfl⟩
      · split
        · exact Or.inr ⟨2, by decide, rfl⟩
        · split
          · exact Or.inr ⟨3, by decide, rfl⟩
          · split
            · exact Or.inr ⟨4, by decide, rfl⟩
            · exact Or.inl rfl
  · exact Or.inl rfl
def aa (A : pA) : Prop := ∀ k, k < pic A → ∃ w, w ≤ 4 ∧ pit A k 3 = Int32.ofNat w
theorem aa_22 {A B : pA} (e : B.2.2 = A.2.2) (h : aa A) : aa B := by
  have e1 : pic B = pic A := congrArg (fun x => x.1) e
  have e2 : pit B = pit A := congrArg (fun x => x.2.1) e
  intro k hk
  rw [e1] at hk
  rw [e2]
  exact h k hk
theorem aa_keep {w : Nat} {l : Nat → Int32} {A : pA} (hw : w ≤ 2) (hl : w = 0 → ∃ z, z ≤ 4 ∧ l 3 = Int32.ofNat z) (h : aa A) : aa (pkeep w l A) := by
  rcases (show w = 0 ∨ w = 1 ∨ w = 2 by omega) with z | z | z
  · subst z
    rw [pkeep_0]
    intro k hk
    have hk : k < pic A + 1 := hk
    show ∃ z, z ≤ 4 ∧ (if k = pic A then l 3 else pit A k 3) = Int32.ofNat z
    by_cases e : k = pic A
    · rw [if_pos e]; exact hl rfl
    · rw [if_neg e]; exact h k (by omega)
  · subst z
    rw [pkeep_1]
    exact h
  · subst z
    rw [pkeep_2]
    exact h
theorem aa_line {T : Nat → Int32} {n w s b : Nat} {A : pA} (hw : w ≤ 2) (hf : pl_fail T n w b = none) (h : aa A) : aa (pline T n w s b A) := by
  have h1 : aa (pan T n w b (pnote A (pmany w A) 3 (Int32.ofNat s)) (pnl w)) := aa_22 ((pan_22 _ _ _ _ _ _).trans (pnote_22 _ _ _ _)) h
  unfold pline
  split
  · refine aa_keep hw (fun z => ?_) h1
    subst z
    have e3 : pll T n 0 b 3 = pws 10 T n (nb T n b 3) := by
      unfold pll
      rw [if_neg (by decide), if_pos ⟨rfl, rfl⟩]
    rw [e3]
    rcases pws_10 T n (nb T n b 3) with y | y
    · exfalso
      unfold pl_fail at hf
      split at hf
      · cases hf
      · unfold pl_t at hf
        rw [if_pos rfl, show pnl 0 = 3 from rfl, if_pos y] at hf
        cases hf
    · exact y
  · exact h1
theorem aa_run (T : Nat → Int32) (n : Nat) : ∀ (k b : Nat) (A A' : pA), aa A → ps_run 0 T n k b A = .inr A' → aa A'
  | 0, _, A, A', h, e => by
    have e : (Sum.inr A : Nat ⊕ pA) = .inr A' := e
    cases e; exact h
  | k + 1, b, A, A', h, e => by
    rw [ps_un] at e
    split at e
    · cases e; exact h
    · split at e
      · cases e
      · rename_i hw
        split at e
        · cases e
        · rename_i hf
          refine aa_run T n k _ _ A' (aa_line ?_ hf h) e
          rcases pws_7 T n b with z | ⟨w, w3, z⟩
          · exact absurd (show pfw 0 T n b = -1 by unfold pfw; rw [show pwt 0 = 7 from rfl, if_pos z]) hw
          · have ez : pfw 0 T n b = Int32.ofNat w := by
              unfold pfw
              rw [show pwt 0 = 7 from rfl, if_neg (fun y => n32_nm (by omega) (z.symm.trans y)), z, show pwb 0 = Int32.ofNat 0 from rfl, n32_add, Nat.zero_add]
            rw [ez, n32_tn (by omega)]
            omega
theorem aa_text (T : Nat → Int32) (n : Nat) : aa (ps_text 0 T n) := by
  unfold ps_text
  split
  · intro k hk
    exact absurd hk (Nat.not_lt_zero k)
  · rename_i A e
    refine aa_22 (pnote_22 _ _ _ _) ?_
    unfold ps_all at e
    rw [if_neg (by decide)] at e
    exact aa_run T n 601 0 pA0 A (fun k hk => absurd hk (Nat.not_lt_zero k)) e
