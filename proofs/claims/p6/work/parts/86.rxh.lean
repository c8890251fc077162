/-- what is told, by sort -/
def rqC (sort : Int32) (S : ex_S) (A : pA) : Prop := if sort = 0 then rqc0 S A else if sort = 2 then rqc2 S A else rqc3 S A
theorem rqC.keep {sort : Int32} {S S' : ex_S} {A : pA} (h : rqC sort S A) (e : ∀ j, S'.1 51 j = S.1 51 j) (e2 : S'.1 41 21 = S.1 41 21) : rqC sort S' A := by
  unfold rqC at h ⊢
  split at h
  · rename_i h0; rw [if_pos h0]; exact h.keep e
  · rename_i h0; rw [if_neg h0]
    split at h
    · rename_i h2; rw [if_pos h2]; exact h.keep e e2
    · rename_i h2; rw [if_neg h2]
      obtain ⟨h1, h3, h4⟩ := h
      exact ⟨by rw [e]; exact h1, h3, fun k j hk hj => by rw [e]; exact h4 k j hk hj⟩
theorem ps_un {sort : Int32} {T : Nat → Int32} {n m b : Nat} {A : pA} : ps_run sort T n (m + 1) b A = if tk_k T n b = 0 then Sum.inr A else if pfw sort T n b = -1 then Sum.inl (tk_s T n b) else match pl_fail T n (pfw sort T n b).toNatClampNeg (tk_e T n b) with | some p => Sum.inl p | none => ps_run sort T n m (pl_end T n (pfw sort T n b).toNatClampNeg (tk_e T n b)) (pline T n (pfw sort T n b).toNatClampNeg (tk_s T n b) (tk_e T n b) A) := rfl
def rq186 (sort : Int32) (S : ex_S) (n b k : Nat) (A : pA) : Prop := rtok S n b ∧ rqf S A (tk_s (S.1 42) n b) ∧ (pf A = 0 → rqC sort S A) ∧ n < b + k
def rc186 (sort : Int32) (S : ex_S) (v : Int32) (S' : ex_S) : Prop := ex_fw rpl S S' ∧ ∀ n b k A, rq186 sort S n b k A → (∀ p, ps_run sort (S.1 42) n k b A = .inl p → v = 0 ∧ S'.1 41 16 = Int32.ofNat p) ∧ (∀ A', ps_run sort (S.1 42) n k b A = .inr A' → v = 1 ∧ S'.1 41 12 = Int32.ofNat n ∧ rqf S' A' n ∧ (pf A' = 0 → rqC sort S' A'))
def rstop (sort : Int32) (S T : ex_S) (n b k : Nat) (A : pA) : Prop := ∃ p, ps_run sort (S.1 42) n k b A = .inl p ∧ T.1 41 16 = Int32.ofNat p
def ri186 (sort : Int32) (S : ex_S) (x : Int32) (T : ex_S) : Prop := ex_fw rpl S T ∧ ∀ n b k A, rq186 sort S n b k A → (x = 0 → rstop sort S T n b k A) ∧ (x ≠ 0 → x = 1 ∧ ∃ b' k' A', rq186 sort T n b' k' A' ∧ ps_run sort (S.1 42) n k' b' A' = ps_run sort (S.1 42) n k b A)
def rj186 (sort : Int32) (S : ex_S) (x3 : Int32) (x4 : Int64) (T : ex_S) : Prop := ex_fw rpl S T ∧ ∀ n b k A, rq186 sort S n b k A → ∃ b' k' A', rq186 sort T n b' k' A' ∧ ps_run sort (S.1 42) n k' b' A' = ps_run sort (S.1 42) n k b A ∧ tk_k (S.1 42) n b' ≠ 0 ∧ x3 = Int32.ofNat (tk_s (S.1 42) n b') ∧ x4 = rwd (S.1 42) n b'
/-- behind a line, its stop seen -/
def rk186 (sort : Int32) (S : ex_S) (x : Int32) (T : ex_S) : Prop := ex_fw rpl S T ∧ ∀ n b k A, rq186 sort S n b k A → (x = 0 → rstop sort S T n b k A) ∧ (x ≠ 0 → x = 1 ∧ ∃ b' k' A', rtok T n b' ∧ rqf T A' (tk_s (S.1 42) n b') ∧ (pf A' = 0 → rqC sort T A') ∧ n < tk_e (S.1 42) n b' + k' ∧ (tk_k (S.1 42) n b' = 3 → ps_run sort (S.1 42) n k' (tk_e (S.1 42) n b') A' = ps_run sort (S.1 42) n k b A) ∧ (tk_k (S.1 42) n b' ≠ 3 → ps_run sort (S.1 42) n k b A = .inl (tk_s (S.1 42) n b')))
def rm186 (sort : Int32) (S : ex_S) (x : Int32) (T : ex_S) : Prop := ex_fw rpl S T ∧ ∀ n b k A, rq186 sort S n b k A → (x = 0 → rstop sort S T n b k A) ∧ (x ≠ 0 → x = 1 ∧ ∃ b' k' A', rtok T n b' ∧ rqf T A' (tk_s (S.1 42) n b') ∧ (pf A' = 0 → rqC sort T A') ∧ n < tk_e (S.1 42) n b' + k' ∧ ps_run sort (S.1 42) n k' (tk_e (S.1 42) n b') A' = ps_run sort (S.1 42) n k b A)
/-- a line's contract makes the loop's step -/
theorem rk186_of {sort : Int32} {S T U : ex_S} {x3 : Int32} {x4 : Int64} {r s3 : Int32} {R : ex_S → pA → Prop} (hI : rj186 sort S x3 x4 T) (hU : rcl s3 R x4 x3 (ex_sx T 41 22 1) r U) (hs : ∀ T n b, pfw s3 T n b = pfw sort T n b) (hR : ∀ S A, R S A ↔ rqC sort S A) : rk186 sort S r U := by
  have F0 : ex_fw rpl S (ex_sx T 41 22 1) := hI.1.sx (by unfold rpl; omega)
  refine ⟨F0.trans hU.1, fun n b k A q => ?_⟩
  obtain ⟨b', k', A', ⟨q1, q2, q3, q4⟩, e, hk, h3, h4⟩ := hI.2 n b k A q
  have e42 := fw42l hI.1
  have e42' : (ex_sx T 41 22 1).1 42 = S.1 42 := fw42l F0
  have ql : rql x4 x3 (ex_sx T 41 22 1) n b' A' := by
    refine ⟨q1.keep (fun k h1 h2 => ex_sx_ne (by omega)) (fun i => ex_sx_ne (by omega)) rfl, by rw [e42']; exact h3, by rw [e42']; exact h4, ex_sx_eq, ?_⟩
    rw [e42']; rw [e42] at q2
    exact q2.keep (ex_sx_ne (by omega)) (ex_sx_ne (by omega)) (Nat.le_refl _)
  have hc : pf A' = 0 → R (ex_sx T 41 22 1) A' := fun z => (hR _ _).mpr ((q3 z).keep (fun j => ex_sx_ne (by omega)) (ex_sx_ne (by omega)))
  obtain ⟨g1, g2⟩ := hU.2 n b' A' ql hc
  rw [e42'] at g1 g2
  rw [hs] at g1
  have hbn := q1.2.1
  obtain ⟨m, rfl⟩ : ∃ m, k' = m + 1 := ⟨k' - 1, by omega⟩
  have un := ps_un (sort := sort) (T := S.1 42) (n := n) (m := m) (b := b') (A := A')
  rw [if_neg hk] at un
  rcases pfw_r sort (S.1 42) n b' with z | ⟨w, hw, z⟩
  · obtain ⟨v0, w16⟩ := g1 z
    rw [if_pos z] at un
    exact ⟨fun _ => ⟨_, e.symm.trans un, w16⟩, fun y => absurd v0 y⟩
  · rw [z, if_neg (n32_m1 (by omega)), n32_tn (by omega)] at un
    obtain ⟨g3, g4⟩ := g2 w hw ((hs _ _ _).trans z)
    cases hp : pl_pre (S.1 42) n w (tk_e (S.1 42) n b') with
    | some p =>
      obtain ⟨v0, w16⟩ := g3 p hp
      rw [pl_fail_s hp] at un
      exact ⟨fun _ => ⟨p, e.symm.trans un, w16⟩, fun y => absurd v0 y⟩
    | none =>
      obtain ⟨v1, t, f, c⟩ := g4 hp
      rw [pl_fail_n hp, pl_end_bst] at un
      refine ⟨fun y => absurd (v1.symm.trans y) (by decide), fun _ => ⟨v1, bst (S.1 42) n w (tk_e (S.1 42) n b'), m, pline (S.1 42) n w (tk_s (S.1 42) n b') (tk_e (S.1 42) n b') A', t, f, fun y => (hR _ _).mp (c y), ?_, fun k3 => ?_, fun k3 => ?_⟩⟩
      · have gt := tk_e_gt hk
        have g5 := tk_s_ge (T := S.1 42) (n := n) (b := b')
        have g6 := pl_end_ge (T := S.1 42) (n := n) (w := w) (b := tk_e (S.1 42) n b')
        rw [pl_end_bst] at g6
        omega
      · rw [← e, un]; unfold pl_s; rw [if_pos k3]
      · rw [← e, un]; unfold pl_s; rw [if_neg k3]
theorem ec186 : es186 rc186 := by
  refine ev186 (I2 := ri186) (I36 := rj186) (I78 := rk186) (I95 := rm186) ec179 ec184 ec187 ec189 ec192 ?_ ?_ ?_ ?_ ?_ ?_ ?_ ?_ ?_ ?_ ?_ ?_ ?_
  · intro sort S
    exact ⟨ex_fw.refl _ S, fun n b k A q => ⟨fun z => absurd z (by decide), fun _ => ⟨rfl, b, k, A, q, rfl⟩⟩⟩
  · intro sort S x T hI c
    refine ⟨hI.1, fun n b k A q => ?_⟩
    obtain ⟨p, p1, p2⟩ := (hI.2 n b k A q).1 c
    rw [p1]
    refine ⟨fun p' z => ?_, fun A'' z => (by cases z)⟩
    cases z
    exact ⟨c, p2⟩
  · intro sort S x T hI c c1
    refine ⟨hI.1, fun n b k A q => ?_⟩
    obtain ⟨x1, b', k', A', q', e⟩ := (hI.2 n b k A q).2 c
    have e42 := fw42l hI.1
    have k0 := (q'.1.k (k := 0) (by decide)).mp c1
    have s0 := tk_k0 k0 q'.1.2.1
    rw [e42] at k0
    rw [← e, ps_0 k0]
    refine ⟨fun p z => (by cases z), fun A'' z => ?_⟩
    cases z
    refine ⟨x1, ?_, ?_, q'.2.2.1⟩
    · rw [q'.1.2.2.2.2.1, s0]
    · have := q'.2.1; rw [s0] at this; exact this
  · intro sort S x T hI c c1 c2
    refine ⟨hI.1, fun n b k A q => ?_⟩
    obtain ⟨x1, b', k', A', q', e⟩ := (hI.2 n b k A q).2 c
    have e42 := fw42l hI.1
    have n0 : tk_k (T.1 42) n b' ≠ 0 := fun z => c1 ((q'.1.k (k := 0) (by decide)).mpr z)
    have n1 : tk_k (T.1 42) n b' ≠ 1 := fun z => c2 ((q'.1.k (k := 1) (by decide)).mpr z)
    have e12 := q'.1.2.2.2.2.1
    rw [e42] at n0 n1 e12
    refine ⟨b', k', A', q', e, n0, e12, ?_⟩
    unfold rwd; rw [if_neg n1]
  · intro sort S x T hI c c1 c2
    refine ⟨hI.1, fun n b k A q => ?_⟩
    obtain ⟨x1, b', k', A', q', e⟩ := (hI.2 n b k A q).2 c
    have e42 := fw42l hI.1
    have k1 := (q'.1.k (k := 1) (by decide)).mp (Classical.not_not.mp c2)
    have ew := q'.1.2.2.2.2.2.2.2.2 k1
    have e12 := q'.1.2.2.2.2.1
    rw [e42] at k1 ew e12
    refine ⟨b', k', A', q', e, by omega, e12, ?_⟩
    unfold rwd; rw [if_pos k1]; exact ew
  · intro sort S x3 x4 T hI c1 c2 r U hU
    refine rk186_of hI hU (fun T n b => ?_) (fun S A => ?_)
    · unfold pfw pwt pwb; rw [if_neg c1, if_neg c2, if_neg c1, if_neg c2]; rfl
    · unfold rqC; rw [if_neg c1, if_neg c2]
  · intro sort S x3 x4 T hI c1 c2 r U hU
    have c2 := Classical.not_not.mp c2
    refine rk186_of hI hU (fun T n b => by rw [c2]) (fun S A => ?_)
    unfold rqC; rw [if_neg c1, if_pos c2]
  · intro sort S x3 x4 T hI c1 r U hU
    have c1 := Classical.not_not.mp c1
    refine rk186_of hI hU (fun T n b => by rw [c1]) (fun S A => ?_)
    unfold rqC; rw [if_pos c1]
  · intro sort S x T hI c
    exact ⟨hI.1, fun n b k A q => ⟨fun z => (hI.2 n b k A q).1 z, fun z => absurd c z⟩⟩
  · intro sort S x T hI c c1
    refine ⟨hI.1, fun n b k A q => ⟨fun z => absurd z c, fun _ => ?_⟩⟩
    obtain ⟨x1, b', k', A', t, f, cc, hb, h3, h4⟩ := (hI.2 n b k A q).2 c
    have k3 := (t.k (k := 3) (by decide)).mp c1
    rw [fw42l hI.1] at k3
    exact ⟨x1, b', k', A', t, f, cc, hb, h3 k3⟩
  · intro sort S x T hI c c1 r U hU
    obtain ⟨rfl, rfl⟩ := hU
    refine ⟨hI.1.sx (by unfold rpl; omega), fun n b k A q => ⟨fun _ => ?_, fun z => absurd rfl z⟩⟩
    obtain ⟨x1, b', k', A', t, f, cc, hb, h3, h4⟩ := (hI.2 n b k A q).2 c
    have k3 : tk_k (T.1 42) n b' ≠ 3 := fun z => c1 ((t.k (k := 3) (by decide)).mpr z)
    have e42 := fw42l hI.1
    have e12 := t.2.2.2.2.1
    rw [e42] at k3 e12
    exact ⟨_, h4 k3, by rw [ex_sx_eq, e12]⟩
  · intro sort S x T hI c
    exact ⟨hI.1, fun n b k A q => ⟨fun z => (hI.2 n b k A q).1 z, fun z => absurd c z⟩⟩
  · intro sort S x T hI c U hU
    refine ⟨hI.1.trans ((hU.1.mono rp179_n).mono rpn_l), fun n b k A q => ⟨fun z => absurd z c, fun _ => ?_⟩⟩
    obtain ⟨x1, b', k', A', t, f, cc, hb, h3⟩ := (hI.2 n b k A q).2 c
    have e42 := fw42l hI.1
    have tt := hU.tok t.at
    rw [e42] at tt
    have u42 := hU.t42.trans e42
    refine ⟨x1, tk_e (S.1 42) n b', k', A', ⟨tt, ?_, fun z => (cc z).keep (fun j => hU.1.1 51 j (by unfold rp179; omega)) (hU.1.1 41 21 (by unfold rp179; omega)), hb⟩, h3⟩
    rw [u42]
    have g1 := tk_e_ge (T := S.1 42) (n := n) (b := b')
    have g2 := tk_s_ge (T := S.1 42) (n := n) (b := tk_e (S.1 42) n b')
    exact f.keep (hU.1.1 41 17 (by unfold rp179; omega)) (hU.1.1 41 18 (by unfold rp179; omega)) (by omega)
/-- no FAULT is no place; a FAULT is above 0 -/
def pok (A : pA) : Prop := (pf A = 0 ∧ pp A = -1) ∨ 0 < pf A
theorem pok.note {A : pA} {c : Bool} {f p : Int32} (h : pok A) (hf : 0 < f) : pok (pnote A c f p) := by
  unfold pnote
  split
  · exact Or.inr hf
  · exact h
theorem pok.pan {T : Nat → Int32} {n w b : Nat} {A : pA} (h : pok A) : ∀ i, pok (pan T n w b A i)
  | 0 => h
  | i + 1 => (pok.pan h i).note (by decide)
theorem pok.keep {w : Nat} {l : Nat → Int32} {A : pA} (h : pok A) : pok (pkeep w l A) := by
  unfold pok; rw [pkeep_f.1, pkeep_f.2]; exact h
theorem pok.line {T : Nat → Int32} {n w s b : Nat} {A : pA} (h : pok A) : pok (pline T n w s b A) := by
  unfold pok; rw [pline_f.1, pline_f.2]; exact (h.note (by decide)).pan _
theorem pok.run {sort : Int32} {T : Nat → Int32} {n : Nat} : ∀ {k b : Nat} {A A' : pA}, pok A → ps_run sort T n k b A = .inr A' → pok A'
  | 0, _, _, _, h, e => by cases e; exact h
  | k + 1, b, A, A', h, e => by
    rw [ps_un] at e
    split at e
    · cases e; exact h
    · split at e
      · cases e
      · split at e
        · cases e
        · exact pok.run h.line e
theorem pok.row {T : Nat → Int32} {n : Nat} : ∀ {k b : Nat} {A A' : pA}, pok A → pr_run T n k b A = .inr A' → pok A'
  | 0, _, _, _, h, e => by cases e; exact h
  | k + 1, b, A, A', h, e => by
    rw [pr_un] at e
    split at e
    · cases e; exact h
    · split at e
      · refine pok.row ?_ e
        unfold pok; rw [pr_one_f.1, pr_one_f.2]; exact (h.note (by decide)).note (by decide)
      · cases e
theorem pok.all {sort : Int32} {T : Nat → Int32} {n : Nat} {A : pA} (e : ps_all sort T n = .inr A) : pok A := by
  have h0 : pok pA0 := Or.inl ⟨rfl, rfl⟩
  unfold ps_all at e
  split at e
  · exact pok.row h0 e
  · exact pok.run h0 e
/-- readText -/
def rqT (sort : Int32) (S : ex_S) (A : pA) : Prop := if sort = 1 then rqc1 S A else rqC sort S A
def rpt (a k : Nat) : Prop := rpl a k ∨ a = 44 ∨ a = 45
theorem rpl_t : ∀ a k, rpl a k → rpt a k := fun a k z => Or.inl z
def rq178 (S : ex_S) (n : Nat) : Prop := S.1 41 11 = Int32.ofNat n ∧ n ≤ 600 ∧ ∀ i, sf_B (-128) 127 (S.1 42 i)
def rc178 (sort : Int32) (S : ex_S) (v : Int32) (S' : ex_S) : Prop := ex_fw rpt S S' ∧ ∀ n, rq178 S n → S'.1 44 0 = pf (ps_text sort (S.1 42) n) ∧ S'.1 45 0 = pp (ps_text sort (S.1 42) n) ∧ (∀ j, 1 ≤ j → S'.1 44 j = S.1 44 j ∧ S'.1 45 j = S.1 45 j) ∧ (v = 0 ↔ pf (ps_text sort (S.1 42) n) ≠ 0) ∧ (pf (ps_text sort (S.1 42) n) = 0 → rqT sort S' (ps_text sort (S.1 42) n))
def ra178 (sort : Int32) (S T : ex_S) : Prop := ex_fw rpl S T ∧ (∀ j, j < 152 → T.1 51 j = if j = 0 ∧ sort = 2 then 4 else 0)
/-- behind rows or lines -/
def rb178 (sort : Int32) (S : ex_S) (x : Int32) (T : ex_S) : Prop := ex_fw rpl S T ∧ ∀ n, rq178 S n → (∀ p, ps_all sort (S.1 42) n = .inl p → x = 0 ∧ T.1 41 16 = Int32.ofNat p) ∧ (∀ A, ps_all sort (S.1 42) n = .inr A → x = 1 ∧ T.1 41 12 = Int32.ofNat n ∧ rqf T A n ∧ (pf A = 0 → rqT sort T A))
/-- with what is wrong at the end -/
def rd178 (sort : Int32) (S : ex_S) (x : Int32) (T : ex_S) : Prop := ex_fw rpl S T ∧ ∀ n, rq178 S n → (∀ p, ps_all sort (S.1 42) n = .inl p → x = 0 ∧ T.1 41 16 = Int32.ofNat p) ∧ (∀ A, ps_all sort (S.1 42) n = .inr A → x = 1 ∧ T.1 41 17 = pf (pnote A (ps_last sort A) 4 (Int32.ofNat n)) ∧ (pf (pnote A (ps_last sort A) 4 (Int32.ofNat n)) ≠ 0 → T.1 41 18 = pp (pnote A (ps_last sort A) 4 (Int32.ofNat n))) ∧ (pf (pnote A (ps_last sort A) 4 (Int32.ofNat n)) = 0 → rqT sort T (pnote A (ps_last sort A) 4 (Int32.ofNat n))))
def re178 (sort : Int32) (S : ex_S) (x : Int32) (T : ex_S) : Prop := ∃ U, rd178 sort S x U ∧ T = ex_sx U 44 0 (if x = 0 then 1 else U.1 41 17)
def rf178 (sort : Int32) (S : ex_S) (T : ex_S) : Prop := ∃ x U, rd178 sort S x U ∧ T = ex_sx (ex_sx U 44 0 (if x = 0 then 1 else U.1 41 17)) 45 0 (if x = 0 then U.1 41 16 else if U.1 41 17 ≤ 0 then -1 else U.1 41 18)
theorem rqT.keep {sort : Int32} {S S' : ex_S} {A : pA} (h : rqT sort S A) (e : ∀ j, S'.1 51 j = S.1 51 j) (e2 : S'.1 41 21 = S.1 41 21) : rqT sort S' A := by
  unfold rqT at h ⊢
  split at h
  · rename_i h0; rw [if_pos h0]
    obtain ⟨h1, h2, h3⟩ := h
    exact ⟨by rw [e]; exact h1, h2, fun k hk => by rw [e]; exact h3 k hk⟩
  · rename_i h0; rw [if_neg h0]; exact h.keep e e2
theorem rf178_c {sort : Int32} {S T : ex_S} (h : rf178 sort S T) {v : Int32} (hv : v = 0 ↔ T.1 44 0 ≠ 0) : rc178 sort S v T := by
  obtain ⟨x, U, hU, rfl⟩ := h
  refine ⟨((hU.1.mono rpl_t).sx (Or.inr (Or.inl rfl))).sx (Or.inr (Or.inr rfl)), fun n q => ?_⟩
  obtain ⟨g1, g2⟩ := hU.2 n q
  have z44 : (ex_sx (ex_sx U 44 0 (if x = 0 then 1 else U.1 41 17)) 45 0 (if x = 0 then U.1 41 16 else if U.1 41 17 ≤ 0 then -1 else U.1 41 18)).1 44 0 = if x = 0 then 1 else U.1 41 17 := by rw [ex_sx_ne (by omega), ex_sx_eq]
  have oth : ∀ j, 1 ≤ j → (ex_sx (ex_sx U 44 0 (if x = 0 then 1 else U.1 41 17)) 45 0 (if x = 0 then U.1 41 16 else if U.1 41 17 ≤ 0 then -1 else U.1 41 18)).1 44 j = S.1 44 j ∧ (ex_sx (ex_sx U 44 0 (if x = 0 then 1 else U.1 41 17)) 45 0 (if x = 0 then U.1 41 16 else if U.1 41 17 ≤ 0 then -1 else U.1 41 18)).1 45 j = S.1 45 j := by
    intro j hj
    refine ⟨?_, ?_⟩
    · rw [ex_sx_ne (by omega), ex_sx_ne (by omega)]; exact hU.1.1 44 j (by unfold rpl; omega)
    · rw [ex_sx_ne (by omega), ex_sx_ne (by omega)]; exact hU.1.1 45 j (by unfold rpl; omega)
  rw [z44] at hv
  unfold ps_text
  cases h : ps_all sort (S.1 42) n with
  | inl p =>
    obtain ⟨x0, w⟩ := g1 p h
    rw [if_pos x0] at hv
    refine ⟨by rw [z44, if_pos x0]; rfl, by rw [ex_sx_eq, if_pos x0, w]; rfl, oth, ?_, fun z => absurd (show (1 : Int32) = 0 from z) (by decide)⟩
    exact hv
  | inr A =>
    obtain ⟨x1, w1, w2, w3⟩ := g2 A h
    have nx : ¬ x = 0 := fun z => absurd (x1.symm.trans z) (by decide)
    rw [if_neg nx, w1] at hv
    refine ⟨by rw [z44, if_neg nx, w1], ?_, oth, hv, fun z => (w3 z).keep (fun j => by rw [ex_sx_ne (by omega), ex_sx_ne (by omega)]) (by rw [ex_sx_ne (by omega), ex_sx_ne (by omega)])⟩
    rw [ex_sx_eq, if_neg nx]
    have ok : pok (pnote A (ps_last sort A) 4 (Int32.ofNat n)) := (pok.all h).note (by decide)
    show _ = pp (pnote A (ps_last sort A) 4 (Int32.ofNat n))
    rcases ok with ⟨o1, o2⟩ | o1
    · rw [if_pos (by rw [w1, o1]; decide), o2]
    · have n0 : pf (pnote A (ps_last sort A) 4 (Int32.ofNat n)) ≠ 0 := fun z => by rw [z] at o1; exact absurd o1 (by decide)
      rw [if_neg (by rw [w1]; exact Int32.not_le.mpr o1)]
      exact w2 n0
/-- the end's FAULT -/
theorem rd178_of {sort : Int32} {S T : ex_S} {x : Int32} (h : rb178 sort S x T) (h0 : ∀ n A, rq178 S n → ps_all sort (S.1 42) n = .inr A → pf A = 0 → ps_last sort A = false) : rd178 sort S x T := by
  refine ⟨h.1, fun n q => ⟨(h.2 n q).1, fun A e => ?_⟩⟩
  obtain ⟨x1, _, f, c⟩ := (h.2 n q).2 A e
  have en : pnote A (ps_last sort A) 4 (Int32.ofNat n) = A := by
    by_cases z : pf A = 0
    · rw [h0 n A q e z, pnote_f]
    · exact pnote_ne z
  rw [en]
  exact ⟨x1, f.1, fun z => (f.2 z).1, c⟩
