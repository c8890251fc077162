/-! TEXTS are the same on both sides -/
def eL (S : ex_S) (b x : Nat) : Prop := ∃ rc tc, rc ≤ 10 ∧ tc ≤ 16 ∧ S.1 b 0 = Int32.ofNat rc ∧ S.1 47 x = Int32.ofNat rc ∧ S.1 b 2 = Int32.ofNat tc ∧ S.1 47 (x + 1) = Int32.ofNat tc ∧ (S.2.2.1 b 5 = some (b + 1) ∧ S.2.2.1 b 6 = some (b + 2) ∧ S.2.2.1 b 1 = some (b + 3) ∧ S.2.2.1 b 3 = some (b + 4) ∧ S.2.2.1 b 4 = some (b + 5)) ∧ (∀ k j, k < rc → j < 4 → S.1 (b + 3) (4 * k + j) = S.1 47 (x + (2 + 4 * k + j))) ∧ (∀ k j, k < tc → j < 3 → S.1 (b + 4) (4 * k + j) = S.1 47 (x + (42 + 3 * k + j))) ∧ (∀ k, k < 10 → S.1 (b + 5) k = S.1 47 (x + (90 + k))) ∧ wfL S b tc ∧ ∀ k, k < rc → ∃ w, w ≤ 4 ∧ S.1 (b + 3) (4 * k + 3) = Int32.ofNat w
def eR (S : ex_S) (b x : Nat) : Prop := ∃ n, n ≤ 12 ∧ S.1 b 0 = Int32.ofNat n ∧ S.1 48 x = Int32.ofNat n ∧ S.2.2.1 b 1 = some (b + 1) ∧ ∀ k, k < n → S.1 (b + 1) k = S.1 48 (x + (1 + k))
def eM (S : ex_S) (b x : Nat) : Prop := ∃ sn dc, sn ≤ 6 ∧ dc ≤ 50 ∧ S.1 b 0 = Int32.ofNat sn ∧ S.1 49 x = Int32.ofNat sn ∧ S.1 b 1 = Int32.ofNat dc ∧ S.1 49 (x + 1) = Int32.ofNat dc ∧ (S.2.2.1 b 2 = some (b + 1) ∧ S.2.2.1 b 3 = some (b + 2) ∧ S.2.2.1 b 4 = some (b + 3)) ∧ (∀ k j, k < dc → j < 3 → S.1 (b + 1) (4 * k + j) = S.1 49 (x + (2 + 3 * k + j))) ∧ wfM S b dc sn ∧ ∀ k, k < dc → S.1 (b + 1) (4 * k) = 1 → S.1 (b + 1) (4 * k + 2) = -1
def eH (S : ex_S) (b x : Nat) : Prop := ∃ n, n ≤ 8 ∧ S.1 b 0 = Int32.ofNat n ∧ S.1 50 x = Int32.ofNat n ∧ S.2.2.1 b 1 = some (b + 1) ∧ ∀ k j, k < n → j < 3 → S.1 (b + 1) (4 * k + j) = S.1 50 (x + (1 + 3 * k + j))
def eT (m : Nat) (S : ex_S) (b x : Nat) : Prop := (m = 0 → eL S b x) ∧ (m = 1 → eR S b x) ∧ (m = 2 → eM S b x) ∧ (m = 3 → eH S b x)
/-- how many numbers a text has there, how many cells here -/
def tnm (m : Nat) : Nat := if m = 0 then 100 else if m = 1 then 13 else if m = 2 then 152 else 25
def tcl (m : Nat) : Nat := if m = 0 then 6 else if m = 2 then 4 else 2
theorem eT.mv {m : Nat} {S S' : ex_S} {b x x' : Nat} (hm : m < 4) (h : eT m S b x) (e : ∀ c, b ≤ c → c < b + tcl m → S'.1 c = S.1 c ∧ S'.2.1 c = S.2.1 c ∧ S'.2.2.1 c = S.2.2.1 c) (r : ∀ j, j < tnm m → S'.1 (47 + m) (x' + j) = S.1 (47 + m) (x + j)) : eT m S' b x' := by
  obtain ⟨h0, h1, h2, h3⟩ := h
  refine ⟨fun z => ?_, fun z => ?_, fun z => ?_, fun z => ?_⟩
  · subst z
    obtain ⟨rc, tc, a1, a2, a3, a4, a5, a6, a7, a8, a9, a10, a11, a12⟩ := h0 rfl
    have r : ∀ j, j < 100 → S'.1 47 (x' + j) = S.1 47 (x + j) := r
    have e : ∀ c, b ≤ c → c < b + 6 → S'.1 c = S.1 c ∧ S'.2.1 c = S.2.1 c ∧ S'.2.2.1 c = S.2.2.1 c := e
    have z0 := (e b (by omega) (by omega)).2.2
    have g0 := (e b (by omega) (by omega)).1
    have g2 := (e (b + 2) (by omega) (by omega)).1
    have g3 := (e (b + 3) (by omega) (by omega)).1
    have g4 := (e (b + 4) (by omega) (by omega)).1
    have g5 := (e (b + 5) (by omega) (by omega)).1
    have y1 := (e (b + 1) (by omega) (by omega)).2.1
    have r0 : S'.1 47 x' = S.1 47 x := r 0 (by omega)
    refine ⟨rc, tc, a1, a2, by rw [g0]; exact a3, r0.trans a4, by rw [g0]; exact a5, (r 1 (by omega)).trans a6, by rw [z0]; exact a7, fun k j hk hj => ?_, fun k j hk hj => ?_, fun k hk => ?_, ?_, fun k hk => by rw [g3]; exact a12 k hk⟩
    · rw [g3, r _ (by omega)]; exact a8 k j hk hj
    · rw [g4, r _ (by omega)]; exact a9 k j hk hj
    · rw [g5, r _ (by omega)]; exact a10 k hk
    · unfold wfL at a11 ⊢
      rw [g0, g2, g4, g5, y1]; exact a11
  · subst z
    obtain ⟨n, a1, a2, a3, a4, a5⟩ := h1 rfl
    have r : ∀ j, j < 13 → S'.1 48 (x' + j) = S.1 48 (x + j) := r
    have e : ∀ c, b ≤ c → c < b + 2 → S'.1 c = S.1 c ∧ S'.2.1 c = S.2.1 c ∧ S'.2.2.1 c = S.2.2.1 c := e
    have g0 := (e b (by omega) (by omega)).1
    have g1 := (e (b + 1) (by omega) (by omega)).1
    refine ⟨n, a1, by rw [g0]; exact a2, (r 0 (by omega)).trans a3, by rw [(e b (by omega) (by omega)).2.2]; exact a4, fun k hk => ?_⟩
    rw [g1, r _ (by omega)]; exact a5 k hk
  · subst z
    obtain ⟨sn, dc, a1, a2, a3, a4, a5, a6, a7, a8, a9, a10⟩ := h2 rfl
    have r : ∀ j, j < 152 → S'.1 49 (x' + j) = S.1 49 (x + j) := r
    have e : ∀ c, b ≤ c → c < b + 4 → S'.1 c = S.1 c ∧ S'.2.1 c = S.2.1 c ∧ S'.2.2.1 c = S.2.2.1 c := e
    have g0 := (e b (by omega) (by omega)).1
    have g1 := (e (b + 1) (by omega) (by omega)).1
    have g2 := (e (b + 2) (by omega) (by omega)).1
    have g3 := (e (b + 3) (by omega) (by omega)).1
    refine ⟨sn, dc, a1, a2, by rw [g0]; exact a3, (r 0 (by omega)).trans a4, by rw [g0]; exact a5, (r 1 (by omega)).trans a6, by rw [(e b (by omega) (by omega)).2.2]; exact a7, fun k j hk hj => ?_, ?_, fun k hk => by rw [g1]; exact a10 k hk⟩
    · rw [g1, r _ (by omega)]; exact a8 k j hk hj
    · unfold wfM at a9 ⊢
      rw [g1, g2, g3]; exact a9
  · subst z
    obtain ⟨n, a1, a2, a3, a4, a5⟩ := h3 rfl
    have r : ∀ j, j < 25 → S'.1 50 (x' + j) = S.1 50 (x + j) := r
    have e : ∀ c, b ≤ c → c < b + 2 → S'.1 c = S.1 c ∧ S'.2.1 c = S.2.1 c ∧ S'.2.2.1 c = S.2.2.1 c := e
    have g0 := (e b (by omega) (by omega)).1
    have g1 := (e (b + 1) (by omega) (by omega)).1
    refine ⟨n, a1, by rw [g0]; exact a2, (r 0 (by omega)).trans a3, by rw [(e b (by omega) (by omega)).2.2]; exact a4, fun k j hk hj => ?_⟩
    rw [g1, r _ (by omega)]; exact a5 k j hk hj
/-- the objects of what is told: the fixed one, the images; and how many of a sort each has room for -/
def isT (S : ex_S) (t k : Nat) : Prop := (t = 17 ∧ k = 0) ∨ ∃ i, i < 3 ∧ S.2.2.1 24 i = some t ∧ k = i + 1
def RT (S : ex_S) : Prop := ∀ t k, isT S t k → ∀ m, m < 4 → ∀ c, c < tlen m → Int32.ofNat c < S.1 (t + 6) m → ∃ b, S.2.2.1 (t + 2 + m) c = some b ∧ 72 ≤ b ∧ eT m S b (tnm m * (tlen m * k + c))
/-- cells of a text of sort m at b stay -/
def tsame (m b : Nat) (S S' : ex_S) : Prop := ∀ c, b ≤ c → c < b + tcl m → S'.1 c = S.1 c ∧ S'.2.1 c = S.2.1 c ∧ S'.2.2.1 c = S.2.2.1 c
/-- texts that were there are not touched -/
def tkeep (S S' : ex_S) : Prop := ∀ t k, isT S t k → ∀ m, m < 4 → ∀ c b, c < tlen m → S.2.2.1 (t + 2 + m) c = some b → 72 ≤ b → tsame m b S S'
theorem RT.keep {S S' : ex_S} (R : RT S) (K : tkeep S S') (h1 : ∀ t k, isT S t k → ∀ m, m < 4 → S'.1 (t + 6) m = S.1 (t + 6) m ∧ ∀ c, S'.2.2.1 (t + 2 + m) c = S.2.2.1 (t + 2 + m) c) (h24 : ∀ i, S'.2.2.1 24 i = S.2.2.1 24 i) (hr : ∀ c j, 47 ≤ c → c ≤ 50 → S'.1 c j = S.1 c j) : RT S' := by
  intro t k T m hm c hc hl
  have T : isT S t k := by
    rcases T with T | ⟨i, hi, e, ek⟩
    · exact Or.inl T
    · exact Or.inr ⟨i, hi, (h24 i).symm.trans e, ek⟩
  obtain ⟨g1, g2⟩ := h1 t k T m hm
  rw [g1] at hl
  obtain ⟨b, e, b72, E⟩ := R t k T m hm c hc hl
  exact ⟨b, (g2 c).trans e, b72, E.mv hm (K t k T m hm c b hc e b72) (fun j _ => hr _ _ (by omega) (by omega))⟩
theorem tnm_rwdt {m : Nat} (hm : m < 4) : rwdt (Int32.ofNat m) = tnm m ∧ cxi (Int32.ofNat m) = 19 + m := by
  match m, hm with
  | 0, _ => exact ⟨by decide, by decide⟩
  | 1, _ => exact ⟨by decide, by decide⟩
  | 2, _ => exact ⟨by decide, by decide⟩
  | 3, _ => exact ⟨by decide, by decide⟩
  | m + 4, h => exact absurd h (by omega)
/-- a text that was just read: here it lies at t, there at x -/
theorem eT_of {m : Nat} {S U : ex_S} {A : pA} {t x : Nat} (hm : m < 4) (h : con (Int32.ofNat m) S t A) (q : rqT (Int32.ofNat m) U A) (r : ∀ j, j < tnm m → S.1 (47 + m) (x + j) = U.1 51 j) (hs : m = 2 → ∃ sn, S.1 t 0 = Int32.ofNat sn ∧ sn ≤ 6) (ha : m = 2 → aw A) (hb : m = 0 → aa A) : eT m S t x := by
  obtain ⟨h0, h1, h2, h3⟩ := h
  unfold rqT rqC at q
  refine ⟨fun z => ?_, fun z => ?_, fun z => ?_, fun z => ?_⟩
  · subst z
    rw [if_neg (by decide), if_pos (by decide)] at q
    obtain ⟨q1, q2, q3, q4, q5, q6, q7⟩ := q
    obtain ⟨c1, c2, c3, c4, c5, c6, c7⟩ := h0 (by decide)
    have r : ∀ j, j < 100 → S.1 47 (x + j) = U.1 51 j := r
    refine ⟨pic A, prc A, q2, q4, c2, (r 0 (by omega)).trans q1, c3, (r 1 (by omega)).trans q3, c1, fun k j hk hj => ?_, fun k j hk hj => ?_, fun k hk => ?_, c7, fun k hk => by
      obtain ⟨w, hw, e⟩ := hb rfl k hk
      exact ⟨w, hw, (c4 k 3 hk (by omega)).trans e⟩⟩
    · rw [c4 k j hk hj, r _ (by omega)]; exact (q5 k j hk hj).symm
    · rw [c5 k j hk (by omega), r _ (by omega)]; exact (q6 k j hk hj).symm
    · rw [c6 k hk, r _ (by omega)]; exact (q7 k hk).symm
  · subst z
    rw [if_pos (by decide)] at q
    obtain ⟨q1, q2, q3⟩ := q
    obtain ⟨c1, c2, c3⟩ := h1 (by decide)
    have r : ∀ j, j < 13 → S.1 48 (x + j) = U.1 51 j := r
    refine ⟨pic A, q2, c2, (r 0 (by omega)).trans q1, c1, fun k hk => ?_⟩
    rw [c3 k hk, r _ (by omega)]; exact (q3 k hk).symm
  · subst z
    rw [if_neg (by decide), if_neg (by decide), if_pos (by decide)] at q
    obtain ⟨q1, q2, q3, q4, q5⟩ := q
    obtain ⟨c1, c2, c3, c4, c5⟩ := h2 (by decide)
    have r : ∀ j, j < 152 → S.1 49 (x + j) = U.1 51 j := r
    obtain ⟨sn, es, ls⟩ := hs rfl
    have ep : pst A = Int32.ofNat sn := c2.symm.trans es
    refine ⟨sn, pic A, ls, q3, es, (r 0 (by omega)).trans (q1.trans ep), c3, (r 1 (by omega)).trans q2, c1, fun k j hk hj => ?_, c5 sn ep ls, fun k hk h0 => ?_⟩
    · rw [c4 k j hk (by omega), r _ (by omega)]; exact (q5 k j hk hj).symm
    · have h0 := (c4 k 0 hk (by omega)).symm.trans h0
      exact (c4 k 2 hk (by omega)).trans (ha rfl k hk h0)
  · subst z
    rw [if_neg (by decide), if_neg (by decide), if_neg (by decide)] at q
    obtain ⟨q1, q2, q3⟩ := q
    obtain ⟨c1, c2, c3⟩ := h3 (by decide) (by decide) (by decide)
    have r : ∀ j, j < 25 → S.1 50 (x + j) = U.1 51 j := r
    refine ⟨pic A, q2, c2, (r 0 (by omega)).trans q1, c1, fun k j hk hj => ?_⟩
    rw [c3 k j hk (by omega), r _ (by omega)]; exact (q3 k j hk hj).symm
/-- a stretch that a store has not met -/
theorem sti_ne {T U : Nat → Int32} {w t j : Nat} (h : j < w * t ∨ w * t + w ≤ j) : sti T U w t w j = T j := by
  unfold sti
  rw [if_neg (fun z => by omega)]
theorem sti_in {T U : Nat → Int32} {w t i : Nat} (h : i < w) : sti T U w t w (w * t + i) = U i := by
  unfold sti
  rw [if_pos ⟨by omega, by omega⟩, show w * t + i - w * t = i by omega]
/-- the whole of what both sides hold is the same -/
def R2 (S : ex_S) : Prop := R1 S ∧ RT S
theorem isT_in {S : ex_S} {t k m c : Nat} (T : isT S t k) (hm : m < 4) (hc : c < tlen m) : k ≤ 3 ∧ tlen m * k + c < tlen m * 4 := by
  have k3 : k ≤ 3 := by
    rcases T with ⟨_, e⟩ | ⟨i, hi, _, e⟩ <;> omega
  refine ⟨k3, ?_⟩
  have := Nat.mul_le_mul_left (tlen m) k3
  omega
/-- text keeps texts the same -/
theorem RT_text {s a v w : Int32} {S S1 S2 : ex_S} {n : Nat} (e : S.1 17 1 = Int32.ofNat n) (q : cq11 S n) (q2 : cq10 S) (R : R1 S) (RTS : RT S) (h1 : cxC s a S v S1) (d1 : cxD s a S v S1) (k1 : ∀ c j, 41 ≤ c → c < 72 → S1.1 c j = S.1 c j) (z1 : ∀ i, S1.2.2.1 24 i = S.2.2.1 24 i) (i1 : ∀ i b, i < 3 → S.2.2.1 24 i = some b → ∀ c, b ≤ c → c < b + 7 → S1.1 c = S.1 c ∧ S1.2.2.1 c = S.2.2.1 c) (t1 : tkeep S S1) (sn1 : ∀ b, S1.2.2.1 21 v.toNatClampNeg = some b → ∃ sn, S1.1 b 0 = Int32.ofNat sn ∧ sn ≤ 6) (rq : rxq S1 n) (h2 : rxC s a S1 w S2) (d2 : rxD s a S1 w S2) (k2 : ∀ c, c < 41 ∨ 71 < c → S2.1 c = S1.1 c) (y2 : ∀ c, c < 41 ∨ 71 < c → S2.2.1 c = S1.2.1 c) (z2 : ∀ c, c < 41 ∨ 71 < c → S2.2.2.1 c = S1.2.2.1 c) (vw : v = w) : RT S2 := by
  have D1 := d1 n e q q2
  have D2 := d2 n rq
  obtain ⟨_, _, g1⟩ := h1
  have g1 := g1 n e q
  have e42 : ∀ j, S1.1 42 j = S.1 42 j := fun j => k1 42 j (by omega) (by omega)
  have eA : ps_text s (S1.1 42) n = ps_text s (S.1 18) n := by
    refine cg_text (fun j hj => ?_) s
    have z := R.1.1 j (by have := q.1; omega)
    rw [show 600 * 0 + j = j by omega] at z
    rw [e42]; exact z.symm
  rw [eA] at D2
  have hA : s = 2 → aw (ps_text s (S.1 18) n) := fun z => by rw [z]; exact aw_text _ _
  have hB : s = 0 → aa (ps_text s (S.1 18) n) := fun z => by rw [z]; exact aa_text _ _
  generalize ps_text s (S.1 18) n = A at g1 D1 D2 hA hB
  have c0 : ∀ k, k < 4 → S1.1 46 k = S.1 23 k := fun k hk => by
    have z := R.1.2.2 k hk
    rw [show 4 * 0 + k = k by omega] at z
    rw [k1 46 k (by omega) (by omega)]; exact z.symm
  have ok : txok s a (S.1 23 s.toNatClampNeg) (ex_st 1 s.toNatClampNeg) ↔ txok s a (S1.1 46 s.toNatClampNeg) (vf176 s) := by
    constructor
    · intro z
      have l := (s4_of ⟨z.1, z.2.1⟩).1
      rw [c0 _ l, ← most_eq z.1 z.2.1]; exact z
    · intro z
      have l := (s4_of ⟨z.1, z.2.1⟩).1
      rw [← c0 _ l, most_eq z.1 z.2.1]; exact z
  -- objects and images are what they were
  have isb : ∀ t k, isT S2 t k → isT S t k := fun t k T => by
    rcases T with T | ⟨i, hi, e, ek⟩
    · exact Or.inl T
    · rw [z2 24 (by omega), z1] at e
      exact Or.inr ⟨i, hi, e, ek⟩
  have t2 : ∀ {m b : Nat}, 72 ≤ b → tsame m b S S1 → tsame m b S S2 := fun {m b} hb h c c1 c2 => by
    obtain ⟨x1, x2, x3⟩ := h c c1 c2
    exact ⟨(k2 c (by omega)).trans x1, (y2 c (by omega)).trans x2, (z2 c (by omega)).trans x3⟩
  by_cases y : txok s a (S.1 23 s.toNatClampNeg) (ex_st 1 s.toNatClampNeg) ∧ pf A = 0
  · obtain ⟨y, pz⟩ := y
    obtain ⟨l4, es⟩ := s4_of ⟨y.1, y.2.1⟩
    obtain ⟨top72, rf1, cn⟩ := D1.2 y pz
    obtain ⟨U, qT, v3, st⟩ := D2.2 (ok.mp y) pz
    obtain ⟨_, cts⟩ := (g1.2 y).2.2.2 pz
    have ctq : ∀ k, k < 4 → S1.1 23 k = if a = -1 ∧ k = s.toNatClampNeg then S.1 23 s.toNatClampNeg + 1 else S.1 23 k := cts
    clear cts
    have hv : v = if a = -1 then S.1 23 s.toNatClampNeg else a := ((g1.2 y).2.2.2 pz).1
    generalize s.toNatClampNeg = m0 at l4 es y ctq hv
    subst es
    obtain ⟨w0, x0⟩ := tnm_rwdt l4
    rw [← vw] at st
    rw [w0, x0] at st
    rw [x0] at rf1
    intro t k T m hm c hc hl
    have T := isb t k T
    obtain ⟨k3, kc⟩ := isT_in T hm hc
    have tl := tlen_le m
    rcases T with ⟨et, ek⟩ | ⟨i, hi, eb, ek⟩
    · -- the fixed object
      subst et; subst ek
      rw [z2 (17 + 2 + m) (by omega)]
      rw [k2 (17 + 6) (by omega)] at hl
      by_cases new : m = m0 ∧ c = v.toNatClampNeg
      · obtain ⟨em, ec⟩ := new
        subst em; subst ec
        have rf := rf1 (17 + 2 + m) v.toNatClampNeg (by omega) (by omega)
        rw [if_pos ⟨by omega, rfl⟩] at rf
        refine ⟨S.2.2.2.2, rf, top72, eT_of hm (cn.keep (fun b hb => k2 b (by omega)) (fun b hb => y2 b (by omega)) (fun b hb => z2 b (by omega))) qT (fun j hj => ?_) (fun e2 => ?_) (fun e2 => ?_) (fun e2 => ?_)⟩
        · rw [st (47 + m) _ (by omega) (by omega), if_pos (by omega), show tlen m * 0 + v.toNatClampNeg = v.toNatClampNeg by omega, sti_in hj]
        · subst e2
          rw [k2 S.2.2.2.2 (by omega)]
          exact sn1 _ rf
        · exact hA (by rw [e2]; rfl)
        · exact hB (by rw [e2]; rfl)
      · -- an older one
        have hl' : Int32.ofNat c < S.1 (17 + 6) m := by
          have := ctq m hm
          have hl : Int32.ofNat c < S1.1 23 m := hl
          show Int32.ofNat c < S.1 23 m
          by_cases w : a = -1 ∧ m = m0
          · rw [this, if_pos w, ← w.2] at hl
            rw [if_pos w.1, ← w.2] at hv
            have nv : ¬ c = (S.1 23 m).toNatClampNeg := fun z => new ⟨w.2, by rw [hv]; exact z⟩
            have b46 := (rq.2.2.2 m hm).1
            rw [c0 m hm] at b46
            obtain ⟨b0, b3⟩ := b46
            have l := Int32.lt_iff_toInt_lt.mp hl
            rw [n32_i (by omega), Int32.toInt_add, show (1 : Int32).toInt = 1 from rfl, Int.bmod_eq_of_le (by omega) (by omega)] at l
            refine Int32.lt_iff_toInt_lt.mpr ?_
            rw [n32_i (by omega)]
            have nv2 : ¬ c = (S.1 23 m).toInt.toNat := nv
            omega
          · rw [this, if_neg w] at hl; exact hl
        obtain ⟨b, eb, b72, E⟩ := RTS 17 0 (Or.inl ⟨rfl, rfl⟩) m hm c hc hl'
        have rf := rf1 (17 + 2 + m) c (by omega) (by omega)
        rw [if_neg (fun z => new ⟨by omega, z.2⟩)] at rf
        refine ⟨b, rf.trans eb, b72, E.mv hm (t2 b72 (t1 17 0 (Or.inl ⟨rfl, rfl⟩) m hm c b hc eb b72)) (fun j hj => ?_)⟩
        rw [st (47 + m) _ (by omega) (by omega)]
        by_cases em : m = m0
        · rw [if_pos (by omega), ← em]
          rw [show tlen m * 0 + c = c by omega, sti_ne, k1 _ _ (by omega) (by omega)]
          have nc : ¬ c = v.toNatClampNeg := fun z => new ⟨em, z⟩
          rcases Nat.lt_or_gt_of_ne nc with z | z
          · have := Nat.mul_le_mul_left (tnm m) (Nat.succ_le_of_lt z)
            rw [Nat.mul_succ] at this
            exact Or.inl (by omega)
          · have := Nat.mul_le_mul_left (tnm m) (Nat.succ_le_of_lt z)
            rw [Nat.mul_succ] at this
            exact Or.inr (by omega)
        · rw [if_neg (by omega), k1 _ _ (by omega) (by omega)]
    · -- an image
      obtain ⟨b72t, _⟩ := R.2.1 i t hi eb
      have Ti : isT S t k := Or.inr ⟨i, hi, eb, ek⟩
      have gi := fun c h1 h2 => i1 i t hi eb c h1 h2
      rw [z2 (t + 2 + m) (by omega)]
      rw [k2 (t + 6) (by omega), (gi (t + 6) (by omega) (by omega)).1] at hl
      obtain ⟨b, e2, b72, E⟩ := RTS t k Ti m hm c hc hl
      refine ⟨b, by rw [(gi (t + 2 + m) (by omega) (by omega)).2]; exact e2, b72, E.mv hm (t2 b72 (t1 t k Ti m hm c b hc e2 b72)) (fun j hj => ?_)⟩
      rw [st (47 + m) _ (by omega) (by omega)]
      by_cases em : m = m0
      · rw [if_pos (by omega), ← em, sti_ne, k1 _ _ (by omega) (by omega)]
        refine Or.inr ?_
        -- the fixed object's rows lie in front
        have vl : v.toNatClampNeg + 1 ≤ tlen m := by
          have mx := most_eq y.1 y.2.1
          rw [← em] at hv y mx
          have b46 := (rq.2.2.2 m hm).1
          rw [c0 m hm] at b46
          obtain ⟨b0, b3⟩ := b46
          have t2' : (ex_st 1 (Int32.ofNat m).toNatClampNeg).toInt = tlen m := by
            match m, hm with
            | 0, _ => rfl
            | 1, _ => rfl
            | 2, _ => rfl
            | 3, _ => rfl
            | m + 4, h => exact absurd h (by omega)
          have tm : (Int32.ofNat m).toNatClampNeg = m := n32_tn (by omega)
          rw [tm] at t2'
          have vv : v.toNatClampNeg = v.toInt.toNat := rfl
          by_cases w : a = -1
          · have l := Int32.lt_iff_toInt_lt.mp (y.2.2.1 w)
            rw [if_pos w] at hv
            rw [t2'] at l
            rw [vv, hv]; omega
          · obtain ⟨l0, l1⟩ := y.2.2.2 w
            rw [if_neg w] at hv
            have l := Int32.lt_iff_toInt_lt.mp l1
            have l0 := Int32.le_iff_toInt_le.mp l0
            rw [show (0 : Int32).toInt = 0 from rfl] at l0
            have g := (rq.2.2.2 m hm).2
            rw [c0 m hm, ← mx, tm] at g
            have g := Int32.le_iff_toInt_le.mp g
            rw [t2'] at g
            rw [vv, hv]; omega
        have k1' : 1 ≤ k := by omega
        have h1 := Nat.mul_le_mul_left (tnm m) vl
        have h2 : tlen m ≤ tlen m * k + c := Nat.le_trans (Nat.le_mul_of_pos_right _ (by omega)) (Nat.le_add_right _ _)
        have h3 := Nat.mul_le_mul_left (tnm m) h2
        rw [Nat.mul_add, Nat.mul_one] at h1
        omega
      · rw [if_neg (by omega), k1 _ _ (by omega) (by omega)]
  · -- nothing is kept
    have n1 := D1.1 y
    have n2 := D2.1 (fun z => y ⟨ok.mpr z.1, z.2⟩)
    have ct : ∀ k, k < 4 → S1.1 23 k = S.1 23 k := by
      by_cases y1 : txok s a (S.1 23 s.toNatClampNeg) (ex_st 1 s.toNatClampNeg)
      · exact fun k hk => ((g1.2 y1).2.2.1 (fun z => y ⟨y1, z⟩)).2 k hk
      · exact fun k hk => (g1.1 y1).2.2.2 k hk
    intro t k T m hm c hc hl
    have T := isb t k T
    rcases T with ⟨et, ek⟩ | ⟨i, hi, eb, ek⟩
    · subst et; subst ek
      rw [z2 (17 + 2 + m) (by omega)]
      rw [k2 (17 + 6) (by omega)] at hl
      have hl' : Int32.ofNat c < S.1 (17 + 6) m := by
        have hl : Int32.ofNat c < S1.1 23 m := hl
        rw [ct m hm] at hl; exact hl
      obtain ⟨b, eb, b72, E⟩ := RTS 17 0 (Or.inl ⟨rfl, rfl⟩) m hm c hc hl'
      exact ⟨b, (n1 _ c (by omega) (by omega)).trans eb, b72, E.mv hm (t2 b72 (t1 17 0 (Or.inl ⟨rfl, rfl⟩) m hm c b hc eb b72)) (fun j _ => (n2 _ _ (by omega) (by omega)).trans (k1 _ _ (by omega) (by omega)))⟩
    · obtain ⟨b72t, _⟩ := R.2.1 i t hi eb
      have Ti : isT S t k := Or.inr ⟨i, hi, eb, ek⟩
      have gi := fun c h1 h2 => i1 i t hi eb c h1 h2
      rw [z2 (t + 2 + m) (by omega)]
      rw [k2 (t + 6) (by omega), (gi (t + 6) (by omega) (by omega)).1] at hl
      obtain ⟨b, e2, b72, E⟩ := RTS t k Ti m hm c hc hl
      exact ⟨b, by rw [(gi (t + 2 + m) (by omega) (by omega)).2]; exact e2, b72, E.mv hm (t2 b72 (t1 t k Ti m hm c b hc e2 b72)) (fun j _ => (n2 _ _ (by omega) (by omega)).trans (k1 _ _ (by omega) (by omega)))⟩
