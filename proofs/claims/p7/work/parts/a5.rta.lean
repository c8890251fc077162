section
/-! TEXTS are the same on both sides -/
def eL (S : ex_S) (b x : Nat) : Prop := ∃ rc tc, rc ≤ 10 ∧ tc ≤ 16 ∧ S.1 b 0 = Int32.ofNat rc ∧ S.1 47 x = Int32.ofNat rc ∧ S.1 b 2 = Int32.ofNat tc ∧ S.1 47 (x + 1) = Int32.ofNat tc ∧ (S.2.2.1 b 5 = some (b + 1) ∧ S.2.2.1 b 6 = some (b + 2) ∧ S.2.2.1 b 1 = some (b + 3) ∧ S.2.2.1 b 3 = some (b + 4) ∧ S.2.2.1 b 4 = some (b + 5)) ∧ (∀ k j, k < rc → j < 4 → S.1 (b + 3) (4 * k + j) = S.1 47 (x + (2 + 4 * k + j))) ∧ (∀ k j, k < tc → j < 3 → S.1 (b + 4) (4 * k + j) = S.1 47 (x + (42 + 3 * k + j))) ∧ (∀ k, k < 10 → S.1 (b + 5) k = S.1 47 (x + (90 + k))) ∧ wfL S b tc ∧ ∀ k, k < rc → ∃ w, w ≤ 4 ∧ S.1 (b + 3) (4 * k + 3) = Int32.ofNat w
def eR (S : ex_S) (b x : Nat) : Prop := ∃ n, n ≤ 12 ∧ S.1 b 0 = Int32.ofNat n ∧ S.1 48 x = Int32.ofNat n ∧ S.2.2.1 b 1 = some (b + 1) ∧ ∀ k, k < n → S.1 (b + 1) k = S.1 48 (x + (1 + k))
def eM (S : ex_S) (b x : Nat) : Prop := ∃ sn dc, sn ≤ 6 ∧ dc ≤ 50 ∧ S.1 b 0 = Int32.ofNat sn ∧ S.1 49 x = Int32.ofNat sn ∧ S.1 b 1 = Int32.ofNat dc ∧ S.1 49 (x + 1) = Int32.ofNat dc ∧ (S.2.2.1 b 2 = some (b + 1) ∧ S.2.2.1 b 3 = some (b + 2) ∧ S.2.2.1 b 4 = some (b + 3)) ∧ (∀ k j, k < dc → j < 3 → S.1 (b + 1) (4 * k + j) = S.1 49 (x + (2 + 3 * k + j))) ∧ wfM S b dc sn ∧ ∀ k, k < dc → S.1 (b + 1) (4 * k) = 1 → S.1 (b + 1) (4 * k + 2) = -1
def eH (S : ex_S) (b x : Nat) : Prop := ∃ n, n ≤ 8 ∧ S.1 b 0 = Int32.ofNat n ∧ S.1 50 x = Int32.ofNat n ∧ S.2.2.1 b 1 = some (b + 1) ∧ ∀ k j, k < n → j < 3 → S.1 (b + 1) (4 * k + j) = S.1 50 (x + (1 + 3 * k + j))
def eT (m : Nat) (S : ex_S) (b x : Nat) : Prop := (m = 0 → eL S b x) ∧ (m = 1 → eR S b x) ∧ (m = 2 → eM S b x) ∧ (m = 3 → eH S b x)
/-- how many numbers a text has there, how many cells here -/
def tnm (m : Nat) : Nat := if m = 0 then 100 else if m = 1 then 13 else if m = 2 then 152 else 25
def tcl (m : Nat) : Nat := if m = 0 then 6 else if m = 2 then 4 else 2
theorem eT.mv {m : Nat} {S S_q : ex_S} {b x x' : Nat} (hm : m < 4) (h : eT m S b x) (e : ∀ c, b ≤ c → c < b + tcl m → S_q.1 c = S.1 c ∧ S_q.2.1 c = S.2.1 c ∧ S_q.2.2.1 c = S.2.2.1 c) (r : ∀ j, j < tnm m → S_q.1 (47 + m) (x' + j) = S.1 (47 + m) (x + j)) : eT m S_q b x' := by
  obtain ⟨h0, h1, h2, h3⟩ := h
  refine ⟨fun z => ?_, fun z => ?_, fun z => ?_, fun z => ?_⟩
  · subst z
    obtain ⟨rc, tc, a1, a2, a3, a4, a5, a6, a7, a8, a9, a10, a11, a12⟩ := h0 rfl
    have r : ∀ j, j < 100 → S_q.1 47 (x' + j) = S.1 47 (x + j) := r
    have e : ∀ c, b ≤ c → c < b + 6 → S_q.1 c = S.1 c ∧ S_q.2.1 c = S.2.1 c ∧ S_q.2.2.1 c = S.2.2.1 c := e
    have z0 := (e b (by omega) (by omega)).2.2
    have g0 := (e b (by omega) (by omega)).1
    have g2 := (e (b + 2) (by omega) (by omega)).1
    have g3 := (e (b + 3) (by omega) (by omega)).1
    have g4 := (e (b + 4) (by omega) (by omega)).1
    have g5 := (e (b + 5) (by omega) (by omega)).1
    have y1 := (e (b + 1) (by omega) (by omega)).2.1
    have r0 : S_q.1 47 x' = S.1 47 x := r 0 (by omega)
    refine ⟨rc, tc, a1, a2, by rw [g0]; exact a3, r0.trans a4, by rw [g0]; exact a5, (r 1 (by omega)).trans a6, by rw [z0]; exact a7, fun k j hk hj => ?_, fun k j hk hj => ?_, fun k hk => ?_, ?_, fun k hk => by rw [g3]; exact a12 k hk⟩
    · rw [g3, r _ (by omega)]; exact a8 k j hk hj
    · rw [g4, r _ (by omega)]; exact a9 k j hk hj
    · rw [g5, r _ (by omega)]; exact a10 k hk
    · unfold wfL at a11 ⊢
      rw [g0, g2, g4, g5, y1]; exact a11
  · subst z
    obtain ⟨n, a1, a2, a3, a4, a5⟩ := h1 rfl
    have r : ∀ j, j < 13 → S_q.1 48 (x' + j) = S.1 48 (x + j) := r
    have e : ∀ c, b ≤ c → c < b + 2 → S_q.1 c = S.1 c ∧ S_q.2.1 c = S.2.1 c ∧ S_q.2.2.1 c = S.2.2.1 c := e
    have g0 := (e b (by omega) (by omega)).1
    have g1 := (e (b + 1) (by omega) (by omega)).1
    refine ⟨n, a1, by rw [g0]; exact a2, (r 0 (by omega)).trans a3, by rw [(e b (by omega) (by omega)).2.2]; exact a4, fun k hk => ?_⟩
    rw [g1, r _ (by omega)]; exact a5 k hk
  · subst z
    obtain ⟨sn, dc, a1, a2, a3, a4, a5, a6, a7, a8, a9, a10⟩ := h2 rfl
    have r : ∀ j, j < 152 → S_q.1 49 (x' + j) = S.1 49 (x + j) := r
    have e : ∀ c, b ≤ c → c < b + 4 → S_q.1 c = S.1 c ∧ S_q.2.1 c = S.2.1 c ∧ S_q.2.2.1 c = S.2.2.1 c := e
    have g0 := (e b (by omega) (by omega)).1
    have g1 := (e (b + 1) (by omega) (by omega)).1
    have g2 := (e (b + 2) (by omega) (by omega)).1
    have g3 := (e (b + 3) (by omega) (by omega)).1
    refine ⟨sn, dc, a1, a2, by rw [g0]; exact a3, (r 0 (by omega)).trans a4, by rw [g0]; exact a5, (r 1 (by omega)).trans a6, by rw [(e b (by omega) (by omega)).2.2]; exact a7, fun k j hk hj => ?_, ?_, fun k hk => by rw [g1]; exact a10 k hk⟩
    · rw [g1, r _ (by omega)]; exact a8 k j hk hj
    · unfold wfM at a9 ⊢
      rw [g1, g2, g3]; exact a9
  · subst z
    obtain ⟨n, a1, a2, a3, a4, a5⟩ := h3 rfl
    have r : ∀ j, j < 25 → S_q.1 50 (x' + j) = S.1 50 (x + j) := r
    have e : ∀ c, b ≤ c → c < b + 2 → S_q.1 c = S.1 c ∧ S_q.2.1 c = S.2.1 c ∧ S_q.2.2.1 c = S.2.2.1 c := e
    have g0 := (e b (by omega) (by omega)).1
    have g1 := (e (b + 1) (by omega) (by omega)).1
    refine ⟨n, a1, by rw [g0]; exact a2, (r 0 (by omega)).trans a3, by rw [(e b (by omega) (by omega)).2.2]; exact a4, fun k j hk hj => ?_⟩
    rw [g1, r _ (by omega)]; exact a5 k j hk hj
/-- the objects of what is told: the fixed one, the images; and how many of a sort each has room for -/
def isT (S : ex_S) (t k : Nat) : Prop := (t = 17 ∧ k = 0) ∨ ∃ i, i < 3 ∧ S.2.2.1 24 i = some t ∧ k = i + 1
def RT (S : ex_S) : Prop := ∀ t k, isT S t k → ∀ m, m < 4 → ∀ c, c < tlen m → Int32.ofNat c < S.1 (t + 6) m → ∃ b, S.2.2.1 (t + 2 + m) c = some b ∧ 72 ≤ b ∧ eT m S b (tnm m * (tlen m * k + c))
/-- cells of a text of sort m at b stay -/
def tsame (m b : Nat) (S S_q : ex_S) : Prop := ∀ c, b ≤ c → c < b + tcl m → S_q.1 c = S.1 c ∧ S_q.2.1 c = S.2.1 c ∧ S_q.2.2.1 c = S.2.2.1 c
/-- texts that were there are not touched -/
def tkeep (S S_q : ex_S) : Prop := ∀ t k, isT S t k → ∀ m, m < 4 → ∀ c b, c < tlen m → S.2.2.1 (t + 2 + m) c = some b → 72 ≤ b → tsame m b S S_q
theorem RT.keep {S S_q : ex_S} (R : RT S) (K : tkeep S S_q) (h1 : ∀ t k, isT S t k → ∀ m, m < 4 → S_q.1 (t + 6) m = S.1 (t + 6) m ∧ ∀ c, S_q.2.2.1 (t + 2 + m) c = S.2.2.1 (t + 2 + m) c) (h24 : ∀ i, S_q.2.2.1 24 i = S.2.2.1 24 i) (hr : ∀ c j, 47 ≤ c → c ≤ 50 → S_q.1 c j = S.1 c j) : RT S_q := by
  intro t k T m hm c hc hl
  have T : isT S t k := by
    rcases T with T | ⟨i, hi, e, ek⟩
    · exact Or.inl T
    · exact Or.inr ⟨i, hi, (h24 i).symm.trans e, ek⟩
  obtain ⟨g1, g2⟩ := h1 t k T m hm
  rw [g1] at hl
  obtain ⟨b, e, b72, E⟩ := R t k T m hm c hc hl
  exact ⟨b, (g2 c).trans e, b72, E.mv hm (K t k T m hm c b hc e b72) (fun j _ => hr _ _ (by omega) (by omega))⟩
theorem tnm_rwdt {m : Nat} (hm : m < 4) : rwdt (Int32.ofNat m) = tnm m ∧ cxi (Int32.ofNat m) = 19 + m := by
  match m, hm with
  | 0, _ => exact ⟨by decide, by decide⟩
  | 1, _ => exact ⟨by decide, by decide⟩
  | 2, _ => exact ⟨by decide, by decide⟩
  | 3, _ => exact ⟨by decide, by decide⟩
  | m + 4, h => exact absurd h (by omega)
/-- a text that was just read: here it lies at t, there at x -/
theorem eT_of {m : Nat} {S U : ex_S} {A : pA} {t x : Nat} (hm : m < 4) (h : con (Int32.ofNat m) S t A) (q : rqT (Int32.ofNat m) U A) (r : ∀ j, j < tnm m → S.1 (47 + m) (x + j) = U.1 51 j) (hs : m = 2 → ∃ sn, S.1 t 0 = Int32.ofNat sn ∧ sn ≤ 6) (ha : m = 2 → aw A) (hb : m = 0 → aa A) : eT m S t x := by
  obtain ⟨h0, h1, h2, h3⟩ := h
  unfold rqT rqC at q
  refine ⟨fun z => ?_, fun z => ?_, fun z => ?_, fun z => ?_⟩
  · subst z
    rw [if_neg (by decide), if_pos (by decide)] at q
    obtain ⟨q1, q2, q3, q4, q5, q6, q7⟩ := q
    obtain ⟨c1, c2, c3, c4, c5, c6, c7⟩ := h0 (by decide)
    have r : ∀ j, j < 100 → S.1 47 (x + j) = U.1 51 j := r
    refine ⟨pic A, prc A, q2, q4, c2, (r 0 (by omega)).trans q1, c3, (r 1 (by omega)).trans q3, c1, fun k j hk hj => ?_, fun k j hk hj => ?_, fun k hk => ?_, c7, fun k hk => by
      obtain ⟨w, hw, e⟩ := hb rfl k hk
      exact ⟨w, hw, (c4 k 3 hk (by omega)).trans e⟩⟩
    · rw [c4 k j hk hj, r _ (by omega)]; exact (q5 k j hk hj).symm
    · rw [c5 k j hk (by omega), r _ (by omega)]; exact (q6 k j hk hj).symm
    · rw [c6 k hk, r _ (by omega)]; exact (q7 k hk).symm
  · subst z
    rw [if_pos (by decide)] at q
    obtain ⟨q1, q2, q3⟩ := q
    obtain ⟨c1, c2, c3⟩ := h1 (by decide)
    have r : ∀ j, j < 13 → S.1 48 (x + j) = U.1 51 j := r
    refine ⟨pic A, q2, c2, (r 0 (by omega)).trans q1, c1, fun k hk => ?_⟩
    rw [c3 k hk, r _ (by omega)]; exact (q3 k hk).symm
  · subst z
    rw [if_neg (by decide), if_neg (by decide), if_pos (by decide)] at q
    obtain ⟨q1, q2, q3, q4, q5⟩ := q
    obtain ⟨c1, c2, c3, c4, c5⟩ := h2 (by decide)
    have r : ∀ j, j < 152 → S.1 49 (x + j) = U.1 51 j := r
    obtain ⟨sn, es, ls⟩ := hs rfl
    have ep : pst A = Int32.ofNat sn := c2.symm.trans es
    refine ⟨sn, pic A, ls, q3, es, (r 0 (by omega)).trans (q1.trans ep), c3, (r 1 (by omega)).trans q2, c1, fun k j hk hj => ?_, c5 sn ep ls, fun k hk h0 => ?_⟩
    · rw [c4 k j hk (by omega), r _ (by omega)]; exact (q5 k j hk hj).symm
    · have h0 := (c4 k 0 hk (by omega)).symm.trans h0
      exact (c4 k 2 hk (by omega)).trans (ha rfl k hk h0)
  · subst z
    rw [if_neg (by decide), if_neg (by decide), if_neg (by decide)] at q
    obtain ⟨q1, q2, q3⟩ := q
    obtain ⟨c1, c2, c3⟩ := h3 (by decide) (by decide) (by decide)
    have r : ∀ j, j < 25 → S.1 50 (x + j) = U.1 51 j := r
    refine ⟨pic A, q2, c2, (r 0 (by omega)).trans q1, c1, fun k j hk hj => ?_⟩
    rw [c3 k j hk (by omega), r _ (by omega)]; exact (q3 k j hk hj).symm
/-- a stretch that a store has not met -/
theorem sti_ne {T U : Nat → Int32} {w t j : Nat} (h : j < w * t ∨ w * t + w ≤ j) : sti T U w t w j = T j := by
  unfold sti
  rw [if_neg (fun z => by omega)]
theorem sti_in {T U : Nat → Int32} {w t i : Nat} (h : i < w) : sti T U w t w (w * t + i) = U i := by
  unfold sti
  rw [if_pos ⟨by omega, by omega⟩, show w * t + i - w * t = i by omega]
/-- the whole of what both sides hold is the same -/
def R2 (S : ex_S) : Prop := R1 S ∧ RT S
theorem isT_in {S : ex_S} {t k m c : Nat} (T : isT S t k) (hm : m < 4) (hc : c < tlen m) : k ≤ 3 ∧ tlen m * k + c < tlen m * 4 := by
  have k3 : k ≤ 3 := by
    rcases T with ⟨_, e⟩ | ⟨i, hi, _, e⟩ <;> omega
  refine ⟨k3, ?_⟩
  have := Nat.mul_le_mul_left (tlen m) k3
  omega
/-- text keeps texts the same -/
theorem RT_text {s a v w : Int32} {S S1 S2 : ex_S} {n : Nat} (e : S.1 17 1 = Int32.ofNat n) (q : cq11 S n) (q2 : cq10 S) (R : R1 S) (RTS : RT S) (h1 : cxC s a S v S1) (d1 : cxD s a S v S1) (k1 : ∀ c j, 41 ≤ c → c < 72 → S1.1 c j = S.1 c j) (z1 : ∀ i, S1.2.2.1 24 i = S.2.2.1 24 i) (i1 : ∀ i b, i < 3 → S.2.2.1 24 i = some b → ∀ c, b ≤ c → c < b + 7 → S1.1 c = S.1 c ∧ S1.2.2.1 c = S.2.2.1 c) (t1 : tkeep S S1) (sn1 : ∀ b, S1.2.2.1 21 v.toNatClampNeg = some b → ∃ sn, S1.1 b 0 = Int32.ofNat sn ∧ sn ≤ 6) (rq : rxq S1 n) (h2 : rxC s a S1 w S2) (d2 : rxD s a S1 w S2) (k2 : ∀ c, c < 41 ∨ 71 < c → S2.1 c = S1.1 c) (y2 : ∀ c, c < 41 ∨ 71 < c → S2.2.1 c = S1.2.1 c) (z2 : ∀ c, c < 41 ∨ 71 < c → S2.2.2.1 c = S1.2.2.1 c) (vw : v = w) : RT S2 := by
  have D1 := d1 n e q q2
  have D2 := d2 n rq
  obtain ⟨_, _, g1⟩ := h1
  have g1 := g1 n e q
  have e42 : ∀ j, S1.1 42 j = S.1 42 j := fun j => k1 42 j (by omega) (by omega)
  have eA : ps_text s (S1.1 42) n = ps_text s (S.1 18) n := by
    refine cg_text (fun j hj => ?_) s
    have z := R.1.1 j (by have := q.1; omega)
    rw [show 600 * 0 + j = j by omega] at z
    rw [e42]; exact z.symm
  rw [eA] at D2
  have hA : s = 2 → aw (ps_text s (S.1 18) n) := fun z => by rw [z]; exact aw_text _ _
  have hB : s = 0 → aa (ps_text s (S.1 18) n) := fun z => by rw [z]; exact aa_text _ _
  generalize ps_text s (S.1 18) n = A at g1 D1 D2 hA hB
  have c0 : ∀ k, k < 4 → S1.1 46 k = S.1 23 k := fun k hk => by
    have z := R.1.2.2 k hk
    rw [show 4 * 0 + k = k by omega] at z
    rw [k1 46 k (by omega) (by omega)]; exact z.symm
  have ok : txok s a (S.1 23 s.toNatClampNeg) (ex_st 1 s.toNatClampNeg) ↔ txok s a (S1.1 46 s.toNatClampNeg) (vf176 s) := by
    constructor
    · intro z
      have l := (s4_of ⟨z.1, z.2.1⟩).1
      rw [c0 _ l, ← most_eq z.1 z.2.1]; exact z
    · intro z
      have l := (s4_of ⟨z.1, z.2.1⟩).1
      rw [← c0 _ l, most_eq z.1 z.2.1]; exact z
  -- objects and images are what they were
  have isb : ∀ t k, isT S2 t k → isT S t k := fun t k T => by
    rcases T with T | ⟨i, hi, e, ek⟩
    · exact Or.inl T
    · rw [z2 24 (by omega), z1] at e
      exact Or.inr ⟨i, hi, e, ek⟩
  have t2 : ∀ {m b : Nat}, 72 ≤ b → tsame m b S S1 → tsame m b S S2 := fun {m b} hb h c c1 c2 => by
    obtain ⟨x1, x2, x3⟩ := h c c1 c2
    exact ⟨(k2 c (by omega)).trans x1, (y2 c (by omega)).trans x2, (z2 c (by omega)).trans x3⟩
  by_cases y : txok s a (S.1 23 s.toNatClampNeg) (ex_st 1 s.toNatClampNeg) ∧ pf A = 0
  · obtain ⟨y, pz⟩ := y
    obtain ⟨l4, es⟩ := s4_of ⟨y.1, y.2.1⟩
    obtain ⟨top72, rf1, cn⟩ := D1.2 y pz
    obtain ⟨U, qT, v3, st⟩ := D2.2 (ok.mp y) pz
    obtain ⟨_, cts⟩ := (g1.2 y).2.2.2 pz
    have ctq : ∀ k, k < 4 → S1.1 23 k = if a = -1 ∧ k = s.toNatClampNeg then S.1 23 s.toNatClampNeg + 1 else S.1 23 k := cts
    clear cts
    have hv : v = if a = -1 then S.1 23 s.toNatClampNeg else a := ((g1.2 y).2.2.2 pz).1
    generalize s.toNatClampNeg = m0 at l4 es y ctq hv
    subst es
    obtain ⟨w0, x0⟩ := tnm_rwdt l4
    rw [← vw] at st
    rw [w0, x0] at st
    rw [x0] at rf1
    intro t k T m hm c hc hl
    have T := isb t k T
    obtain ⟨k3, kc⟩ := isT_in T hm hc
    have tl := tlen_le m
    rcases T with ⟨et, ek⟩ | ⟨i, hi, eb, ek⟩
    · -- the fixed object
      subst et; subst ek
      rw [z2 (17 + 2 + m) (by omega)]
      rw [k2 (17 + 6) (by omega)] at hl
      by_cases new : m = m0 ∧ c = v.toNatClampNeg
      · obtain ⟨em, ec⟩ := new
        subst em; subst ec
        have rf := rf1 (17 + 2 + m) v.toNatClampNeg (by omega) (by omega)
        rw [if_pos ⟨by omega, rfl⟩] at rf
        refine ⟨S.2.2.2.2, rf, top72, eT_of hm (cn.keep (fun b hb => k2 b (by omega)) (fun b hb => y2 b (by omega)) (fun b hb => z2 b (by omega))) qT (fun j hj => ?_) (fun e2 => ?_) (fun e2 => ?_) (fun e2 => ?_)⟩
        · rw [st (47 + m) _ (by omega) (by omega), if_pos (by omega), show tlen m * 0 + v.toNatClampNeg = v.toNatClampNeg by omega, sti_in hj]
        · subst e2
          rw [k2 S.2.2.2.2 (by omega)]
          exact sn1 _ rf
        · exact hA (by rw [e2]; rfl)
        · exact hB (by rw [e2]; rfl)
      · -- an older one
        have hl' : Int32.ofNat c < S.1 (17 + 6) m := by
          have := ctq m hm
          have hl : Int32.ofNat c < S1.1 23 m := hl
          show Int32.ofNat c < S.1 23 m
          by_cases w : a = -1 ∧ m = m0
          · rw [this, if_pos w, ← w.2] at hl
            rw [if_pos w.1, ← w.2] at hv
            have nv : ¬ c = (S.1 23 m).toNatClampNeg := fun z => new ⟨w.2, by rw [hv]; exact z⟩
            have b46 := (rq.2.2.2 m hm).1
            rw [c0 m hm] at b46
            obtain ⟨b0, b3⟩ := b46
            have l := Int32.lt_iff_toInt_lt.mp hl
            rw [n32_i (by omega), Int32.toInt_add, show (1 : Int32).toInt = 1 from rfl, Int.bmod_eq_of_le (by omega) (by omega)] at l
            refine Int32.lt_iff_toInt_lt.mpr ?_
            rw [n32_i (by omega)]
            have nv2 : ¬ c = (S.1 23 m).toInt.toNat := nv
            omega
          · rw [this, if_neg w] at hl; exact hl
        obtain ⟨b, eb, b72, E⟩ := RTS 17 0 (Or.inl ⟨rfl, rfl⟩) m hm c hc hl'
        have rf := rf1 (17 + 2 + m) c (by omega) (by omega)
        rw [if_neg (fun z => new ⟨by omega, z.2⟩)] at rf
        refine ⟨b, rf.trans eb, b72, E.mv hm (t2 b72 (t1 17 0 (Or.inl ⟨rfl, rfl⟩) m hm c b hc eb b72)) (fun j hj => ?_)⟩
        rw [st (47 + m) _ (by omega) (by omega)]
        by_cases em : m = m0
        · rw [if_pos (by omega), ← em]
          rw [show tlen m * 0 + c = c by omega, sti_ne, k1 _ _ (by omega) (by omega)]
          have nc : ¬ c = v.toNatClampNeg := fun z => new ⟨em, z⟩
          rcases Nat.lt_or_gt_of_ne nc with z | z
          · have := Nat.mul_le_mul_left (tnm m) (Nat.succ_le_of_lt z)
            rw [Nat.mul_succ] at this
            exact Or.inl (by omega)
          · have := Nat.mul_le_mul_left (tnm m) (Nat.succ_le_of_lt z)
            rw [Nat.mul_succ] at this
            exact Or.inr (by omega)
        · rw [if_neg (by omega), k1 _ _ (by omega) (by omega)]
    · -- an image
      obtain ⟨b72t, _⟩ := R.2.1 i t hi eb
      have Ti : isT S t k := Or.inr ⟨i, hi, eb, ek⟩
      have gi := fun c h1 h2 => i1 i t hi eb c h1 h2
      rw [z2 (t + 2 + m) (by omega)]
      rw [k2 (t + 6) (by omega), (gi (t + 6) (by omega) (by omega)).1] at hl
      obtain ⟨b, e2, b72, E⟩ := RTS t k Ti m hm c hc hl
      refine ⟨b, by rw [(gi (t + 2 + m) (by omega) (by omega)).2]; exact e2, b72, E.mv hm (t2 b72 (t1 t k Ti m hm c b hc e2 b72)) (fun j hj => ?_)⟩
      rw [st (47 + m) _ (by omega) (by omega)]
      by_cases em : m = m0
      · rw [if_pos (by omega), ← em, sti_ne, k1 _ _ (by omega) (by omega)]
        refine Or.inr ?_
        -- the fixed object's rows lie in front
        have vl : v.toNatClampNeg + 1 ≤ tlen m := by
          have mx := most_eq y.1 y.2.1
          rw [← em] at hv y mx
          have b46 := (rq.2.2.2 m hm).1
          rw [c0 m hm] at b46
          obtain ⟨b0, b3⟩ := b46
          have t2' : (ex_st 1 (Int32.ofNat m).toNatClampNeg).toInt = tlen m := by
            match m, hm with
            | 0, _ => rfl
            | 1, _ => rfl
            | 2, _ => rfl
            | 3, _ => rfl
            | m + 4, h => exact absurd h (by omega)
          have tm : (Int32.ofNat m).toNatClampNeg = m := n32_tn (by omega)
          rw [tm] at t2'
          have vv : v.toNatClampNeg = v.toInt.toNat := rfl
          by_cases w : a = -1
          · have l := Int32.lt_iff_toInt_lt.mp (y.2.2.1 w)
            rw [if_pos w] at hv
            rw [t2'] at l
            rw [vv, hv]; omega
          · obtain ⟨l0, l1⟩ := y.2.2.2 w
            rw [if_neg w] at hv
            have l := Int32.lt_iff_toInt_lt.mp l1
            have l0 := Int32.le_iff_toInt_le.mp l0
            rw [show (0 : Int32).toInt = 0 from rfl] at l0
            have g := (rq.2.2.2 m hm).2
            rw [c0 m hm, ← mx, tm] at g
            have g := Int32.le_iff_toInt_le.mp g
            rw [t2'] at g
            rw [vv, hv]; omega
        have k1' : 1 ≤ k := by omega
        have h1 := Nat.mul_le_mul_left (tnm m) vl
        have h2 : tlen m ≤ tlen m * k + c := Nat.le_trans (Nat.le_mul_of_pos_right _ (by omega)) (Nat.le_add_right _ _)
        have h3 := Nat.mul_le_mul_left (tnm m) h2
        rw [Nat.mul_add, Nat.mul_one] at h1
        omega
      · rw [if_neg (by omega), k1 _ _ (by omega) (by omega)]
  · -- nothing is kept
    have n1 := D1.1 y
    have n2 := D2.1 (fun z => y ⟨ok.mpr z.1, z.2⟩)
    have ct : ∀ k, k < 4 → S1.1 23 k = S.1 23 k := by
      by_cases y1 : txok s a (S.1 23 s.toNatClampNeg) (ex_st 1 s.toNatClampNeg)
      · exact fun k hk => ((g1.2 y1).2.2.1 (fun z => y ⟨y1, z⟩)).2 k hk
      · exact fun k hk => (g1.1 y1).2.2.2 k hk
    intro t k T m hm c hc hl
    have T := isb t k T
    rcases T with ⟨et, ek⟩ | ⟨i, hi, eb, ek⟩
    · subst et; subst ek
      rw [z2 (17 + 2 + m) (by omega)]
      rw [k2 (17 + 6) (by omega)] at hl
      have hl' : Int32.ofNat c < S.1 (17 + 6) m := by
        have hl : Int32.ofNat c < S1.1 23 m := hl
        rw [ct m hm] at hl; exact hl
      obtain ⟨b, eb, b72, E⟩ := RTS 17 0 (Or.inl ⟨rfl, rfl⟩) m hm c hc hl'
      exact ⟨b, (n1 _ c (by omega) (by omega)).trans eb, b72, E.mv hm (t2 b72 (t1 17 0 (Or.inl ⟨rfl, rfl⟩) m hm c b hc eb b72)) (fun j _ => (n2 _ _ (by omega) (by omega)).trans (k1 _ _ (by omega) (by omega)))⟩
    · obtain ⟨b72t, _⟩ := R.2.1 i t hi eb
      have Ti : isT S t k := Or.inr ⟨i, hi, eb, ek⟩
      have gi := fun c h1 h2 => i1 i t hi eb c h1 h2
      rw [z2 (t + 2 + m) (by omega)]
      rw [k2 (t + 6) (by omega), (gi (t + 6) (by omega) (by omega)).1] at hl
      obtain ⟨b, e2, b72, E⟩ := RTS t k Ti m hm c hc hl
      exact ⟨b, by rw [(gi (t + 2 + m) (by omega) (by omega)).2]; exact e2, b72, E.mv hm (t2 b72 (t1 t k Ti m hm c b hc e2 b72)) (fun j _ => (n2 _ _ (by omega) (by omega)).trans (k1 _ _ (by omega) (by omega)))⟩
end
section
/-! TEXTS stay the same behind feed, end, image, again -/
theorem RT.low {S S2 : ex_S} (R : RT S) (R1S : R1 S) (h : ∀ c j, (19 ≤ c ∧ c ≤ 24) ∨ (47 ≤ c ∧ c ≤ 50) ∨ 72 ≤ c → S2.1 c j = S.1 c j) (e : S2.2 = S.2) : RT S2 := by
  refine R.keep (fun t k T m hm c b hc eb b72 c_q h1 h2 => ⟨funext (fun j => h c_q j (by omega)), by rw [e], by rw [e]⟩) (fun t k T m hm => ⟨?_, fun c => by rw [e]⟩) (fun i => by rw [e]) (fun c j h1 h2 => h c j (by omega))
  rcases T with ⟨et, _⟩ | ⟨i, hi, eb, _⟩
  · exact h _ _ (by omega)
  · have := (R1S.2.1 i t hi eb).1
    exact h _ _ (by omega)
theorem RT_feed {a0 a1 a2 a3 a4 v w : Int32} {S S1 S2 : ex_S} (R : R1 S) (RTS : RT S) (h1 : fF 18 17 1 a0 a1 a2 a3 a4 S v S1) (h2 : fF 42 43 0 a0 a1 a2 a3 a4 S1 w S2) : RT S2 :=
  RTS.low R (fun c j hc => (h2.1.1 c j (by unfold fP; omega)).trans (h1.1.1 c j (by unfold fP; omega))) (h2.1.2.trans h1.1.2)
theorem RT_end {a v w : Int32} {S S1 S2 : ex_S} (R : R1 S) (RTS : RT S) (h1 : eE 17 1 a S v S1) (h2 : eE 43 0 a S1 w S2) : RT S2 :=
  RTS.low R (fun c j hc => (h2.1.1 c j (by omega)).trans (h1.1.1 c j (by omega))) (h2.1.2.trans h1.1.2)
theorem tofs (m k c j : Nat) : tnm m * (tlen m * k + c) + j = tnm m * tlen m * k + (tnm m * c + j) := by
  rw [Nat.mul_add, Nat.mul_assoc, Nat.add_assoc]
theorem tofs_lt {m c j : Nat} (hc : c < tlen m) (hj : j < tnm m) : tnm m * c + j < tnm m * tlen m := by
  have := Nat.mul_le_mul_left (tnm m) (Nat.succ_le_of_lt hc)
  rw [Nat.mul_succ] at this
  omega
/-- rows of texts there: row r is what row f was -/
def rowT (S S_q : ex_S) (f r : Nat) : Prop := ∀ m, m < 4 → ∀ j, j < tnm m * tlen m → S_q.1 (47 + m) (tnm m * tlen m * r + j) = S.1 (47 + m) (tnm m * tlen m * f + j)
theorem rowT.of {S S_q : ex_S} {k : Nat} (h : ∀ c j, 47 ≤ c → c ≤ 50 → S_q.1 c j = S.1 c j) : rowT S S_q k k := fun m hm j _ => h _ _ (by omega) (by omega)
theorem rowT.trans {S T U : ex_S} {a b c : Nat} (x : rowT S T a b) (y : rowT T U b c) : rowT S U a c := fun m hm j hj => (y m hm j hj).trans (x m hm j hj)
theorem raC_T {a0 a1 : Int32} {S S_q : ex_S} {f t : Nat} (h : raC a0 a1 S S_q) (e0 : a0 = Int32.ofNat f) (e1 : a1 = Int32.ofNat t) (hf : f ≤ 3) (ht : t ≤ 3) (hne : f ≠ t) (hB : ∀ i, sf_B (-128) 127 (S.1 42 i)) : rowT S S_q f t ∧ ∀ r, r ≠ t → rowT S S_q r r := by
  obtain ⟨_, _, _, _, _, g7, g8, g9, g10⟩ := h.2 f t e0 e1 hf ht hne hB
  constructor
  · intro m hm j hj
    match m, hm, hj with
    | 0, _, hj => exact (g7 _).trans (roi_at (w := 200) hj)
    | 1, _, hj => exact (g8 _).trans (roi_at (w := 39) hj)
    | 2, _, hj => exact (g9 _).trans (roi_at (w := 304) hj)
    | 3, _, hj => exact (g10 _).trans (roi_at (w := 50) hj)
    | m + 4, h, _ => exact absurd h (by omega)
  · intro r hr m hm j hj
    match m, hm, hj with
    | 0, _, hj => exact (g7 _).trans (roi_ne (w := 200) hj hr)
    | 1, _, hj => exact (g8 _).trans (roi_ne (w := 39) hj hr)
    | 2, _, hj => exact (g9 _).trans (roi_ne (w := 304) hj hr)
    | 3, _, hj => exact (g10 _).trans (roi_ne (w := 50) hj hr)
    | m + 4, h, _ => exact absurd h (by omega)
theorem eT.row {m : Nat} {S S_q : ex_S} {b c k r : Nat} (hm : m < 4) (hc : c < tlen m) (h : eT m S b (tnm m * (tlen m * k + c))) (e : tsame m b S S_q) (w : rowT S S_q k r) : eT m S_q b (tnm m * (tlen m * r + c)) :=
  h.mv hm e (fun j hj => by rw [tofs, tofs]; exact w m hm _ (tofs_lt hc hj))
theorem RT_image {a v w : Int32} {S S1 S2 : ex_S} (R : R1 S) (RTS : RT S) (W : tW S) (h1 : ciC a S v S1) (h2 : riC a S1 w S2) (tk : tkeep S S1) : RT S2 := by
  by_cases ha : 0 ≤ a ∧ a ≤ 2
  · obtain ⟨hk, ea⟩ := k3_of ha
    obtain ⟨v1, t, t72, b1, l1, m1, z1, rf, lz, mz⟩ := ciC_img W h1 ha hk
    obtain ⟨w1, Sy, hy, e2⟩ := h2.2 ha
    have ea1 : a + 1 = Int32.ofNat (a.toNatClampNeg + 1) := by
      rw [← n32_s, ← ea]
    have B1 : ∀ i, sf_B (-128) 127 ((ex_sx S1 41 0 0).1 42 i) := fun i => by
      rw [ex_sx_ne (by omega), l1 42 i (by omega)]; exact R.2.2.2 i
    obtain ⟨_, _, _, y4, y5⟩ := raC_at hy (show (0 : Int32) = Int32.ofNat 0 from rfl) ea1 (by omega) (by omega) (by omega) B1
    obtain ⟨w1, w2⟩ := raC_T hy (show (0 : Int32) = Int32.ofNat 0 from rfl) ea1 (by omega) (by omega) (by omega) B1
    generalize a.toNatClampNeg = k at hk z1 m1 mz w1 w2 e2
    have c2 : ∀ c j, c < 41 ∨ 71 < c → S2.1 c j = S1.1 c j := fun c j hc => by
      rw [e2, ex_sx_ne (by omega), y4 c j (by omega), ex_sx_ne (by omega)]
    have p : ∀ {f r}, rowT (ex_sx S1 41 0 0) Sy f r → rowT S S2 f r := fun {f r} y => ((rowT.of (fun c j h1 h3 => by rw [ex_sx_ne (by omega), l1 c j (by omega)])).trans y).trans (rowT.of (fun c j h1 h3 => by rw [e2, ex_sx_ne (by omega)]))
    have z2 : S2.2 = S1.2 := by
      rw [e2]
      show Sy.2 = S1.2
      rw [y5]; rfl
    have ts : ∀ t k, isT S t k → ∀ m, m < 4 → ∀ c b, c < tlen m → S.2.2.1 (t + 2 + m) c = some b → 72 ≤ b → tsame m b S S2 := fun t k T m hm c b hc eb b72 c_q h1 h2 => by
      obtain ⟨x1, x2, x3⟩ := tk t k T m hm c b hc eb b72 c_q h1 h2
      exact ⟨(funext (fun j => c2 c_q j (by omega))).trans x1, by rw [z2]; exact x2, by rw [z2]; exact x3⟩
    intro t_q k_q T m hm c hc hl
    rw [z2]
    rcases T with ⟨et, ek⟩ | ⟨i, hi, eb, ek⟩
    · subst et; subst ek
      rw [c2 (17 + 6) _ (by omega), l1 _ _ (by omega)] at hl
      obtain ⟨b, eb, b72, E⟩ := RTS 17 0 (Or.inl ⟨rfl, rfl⟩) m hm c hc hl
      exact ⟨b, (lz _ _ (by omega) (by omega)).trans eb, b72, E.row hm hc (ts 17 0 (Or.inl ⟨rfl, rfl⟩) m hm c b hc eb b72) (p (w2 0 (by omega)))⟩
    · rw [z2, z1] at eb
      by_cases q : i = k
      · rw [if_pos q] at eb
        cases eb
        subst ek
        rw [c2 (t + 6) _ (by omega), b1.2.2 m hm] at hl
        obtain ⟨b, eb, b72, E⟩ := RTS 17 0 (Or.inl ⟨rfl, rfl⟩) m hm c hc hl
        exact ⟨b, (rf m hm c hc).trans eb, b72, E.row hm hc (ts 17 0 (Or.inl ⟨rfl, rfl⟩) m hm c b hc eb b72) (p (by rw [q]; exact w1))⟩
      · rw [if_neg q] at eb
        obtain ⟨b72t, _⟩ := R.2.1 i t_q hi eb
        have Ti : isT S t_q k_q := Or.inr ⟨i, hi, eb, ek⟩
        rw [c2 (t_q + 6) _ (by omega), m1 i t_q hi q eb _ _ (by omega) (by omega)] at hl
        obtain ⟨b, e3, b72, E⟩ := RTS t_q k_q Ti m hm c hc hl
        exact ⟨b, (mz i t_q hi q eb _ _ (by omega) (by omega)).trans e3, b72, E.row hm hc (ts t_q k_q Ti m hm c b hc e3 b72) (p (w2 k_q (by omega)))⟩
  · obtain ⟨v0, e1⟩ := h1.1 ha
    obtain ⟨w0, e2⟩ := h2.1 ha
    rw [e2, e1]
    exact RTS.low R (fun c j hc => ex_sx_ne (by omega)) rfl
theorem RT_again {a v w : Int32} {S S1 S2 : ex_S} (R : R1 S) (RTS : RT S) (W : tW S) (h1 : cgC a S v S1) (h2 : rgC a S1 w S2) (tk : tkeep S S1) : RT S2 := by
  obtain ⟨o17, top, im, ap⟩ := W
  by_cases ha : (0 ≤ a ∧ a ≤ 2) ∧ ¬ S.2.2.1 24 a.toNatClampNeg = none
  · obtain ⟨hk, ea⟩ := k3_of ha.1
    obtain ⟨v1, b0, eb0, h⟩ := h1.2 ha
    obtain ⟨b72, b7, ob⟩ := im _ b0 hk eb0
    obtain ⟨x1, x2, x3⟩ := tC_at h o17 ob (by unfold tD; omega)
    have k71 : ¬ S1.1 71 a.toNatClampNeg = 0 := by
      rw [x2 71 _ (by omega) (by omega) (by omega)]
      exact fun z => ha.2 ((R.2.2.1 _ hk).mpr z)
    obtain ⟨w1, hy⟩ := h2.2 ⟨ha.1, k71⟩
    have ea1 : a + 1 = Int32.ofNat (a.toNatClampNeg + 1) := by
      rw [← n32_s, ← ea]
    have B1 : ∀ i, sf_B (-128) 127 ((ex_sx S1 41 0 0).1 42 i) := fun i => by
      rw [ex_sx_ne (by omega), x2 42 i (by omega) (by omega) (by omega)]; exact R.2.2.2 i
    obtain ⟨_, _, _, y4, y5⟩ := raC_at hy ea1 (show (0 : Int32) = Int32.ofNat 0 from rfl) (by omega) (by omega) (by omega) B1
    obtain ⟨w1, w2⟩ := raC_T hy ea1 (show (0 : Int32) = Int32.ofNat 0 from rfl) (by omega) (by omega) (by omega) B1
    have T0 : isT S b0 (a.toNatClampNeg + 1) := Or.inr ⟨_, hk, eb0, rfl⟩
    generalize a.toNatClampNeg = k at hk w1 w2 T0 eb0
    have c2 : ∀ c j, c < 41 ∨ 50 < c → S2.1 c j = S1.1 c j := fun c j hc => by
      rw [y4 c j (by omega), ex_sx_ne (by omega)]
    have p : ∀ {f r}, rowT (ex_sx S1 41 0 0) S2 f r → rowT S S2 f r := fun {f r} y => (rowT.of (fun c j h1 h3 => by rw [ex_sx_ne (by omega), x2 c j (by omega) (by omega) (by omega)])).trans y
    have z2 : S2.2 = S1.2 := by
      rw [y5]; rfl
    have ts : ∀ t k, isT S t k → ∀ m, m < 4 → ∀ c b, c < tlen m → S.2.2.1 (t + 2 + m) c = some b → 72 ≤ b → tsame m b S S2 := fun t k T m hm c b hc eb b72 c_q h1 h2 => by
      obtain ⟨y1, y2, y3⟩ := tk t k T m hm c b hc eb b72 c_q h1 h2
      exact ⟨(funext (fun j => c2 c_q j (by omega))).trans y1, by rw [z2]; exact y2, by rw [z2]; exact y3⟩
    intro t_q k_q T m hm c hc hl
    rw [z2]
    rcases T with ⟨et, ek⟩ | ⟨i, hi, eb, ek⟩
    · subst et; subst ek
      rw [c2 (17 + 6) _ (by omega), x1.2.2 m hm] at hl
      obtain ⟨b, e3, b72', E⟩ := RTS b0 (k + 1) T0 m hm c hc hl
      exact ⟨b, by rw [x3, tzz_in o17 hm hc]; exact e3, b72', E.row hm hc (ts b0 (k + 1) T0 m hm c b hc e3 b72') (p w1)⟩
    · rw [z2, x3, tzz_out (by omega) (by omega) (Or.inr rfl)] at eb
      have t72 := (im i t_q hi eb).1
      have Ti : isT S t_q k_q := Or.inr ⟨i, hi, eb, ek⟩
      rw [c2 (t_q + 6) _ (by omega), x2 _ _ (by omega) (by omega) (by omega)] at hl
      obtain ⟨b, e3, b72', E⟩ := RTS t_q k_q Ti m hm c hc hl
      exact ⟨b, by rw [x3, tzz_out (by omega) (by omega) (Or.inr rfl)]; exact e3, b72', E.row hm hc (ts t_q k_q Ti m hm c b hc e3 b72') (p (w2 k_q (by omega)))⟩
  · obtain ⟨v0, e1⟩ := h1.1 ha
    have ha' : ¬ ((0 ≤ a ∧ a ≤ 2) ∧ ¬ S1.1 71 a.toNatClampNeg = 0) := by
      rw [e1]
      intro z
      exact ha ⟨z.1, fun y => z.2 ((R.2.2.1 _ (k3_of z.1).1).mp y)⟩
    obtain ⟨w0, e2⟩ := h2.1 ha'
    rw [e2, e1]
    exact RTS.low R (fun c j hc => ex_sx_ne (by omega)) rfl
end
section
/-! THE LAW'S LOOP keeps texts the same: from cells to views -/
section
variable {ck ck1 : cl_K} {E E1 : Nat → pm_E} {m m1 mr : Nat → Int32} {o o1 : Nat → Option Nat} {wr : Int64} {h h1 h2 : pm_H}
def kdm (m : Nat) : Nat := if m = 0 then 1 else if m = 1 then 7 else if m = 2 then 9 else 13
theorem txk {t k q c b : Nat} (G : cl_G ck E) (T : cl_T ck E m o h) (I : isT (ex_V h) t k) (hq : q < 4) (e : (ex_V h).2.2.1 (t + 2 + q) c = some b) : ck b = kdm q := by
  have e : ex_eZ (h.2.2 (t + 2 + q)) c = some b := e
  rcases I with ⟨et, _⟩ | ⟨i, hi, ei, _⟩
  · subst et
    match q, hq, e with
    | 0, _, e =>
      obtain ⟨f, ef, hO⟩ := T.C 19 (by decide) (by decide)
      have e : ex_eZ (h.2.2 19) c = some b := e
      rw [ef] at e; exact hO c b e
    | 1, _, e =>
      obtain ⟨f, ef, hO⟩ := T.C 20 (by decide) (by decide)
      have e : ex_eZ (h.2.2 20) c = some b := e
      rw [ef] at e; exact hO c b e
    | 2, _, e =>
      obtain ⟨f, ef, hO⟩ := T.C 21 (by decide) (by decide)
      have e : ex_eZ (h.2.2 21) c = some b := e
      rw [ef] at e; exact hO c b e
    | 3, _, e =>
      obtain ⟨f, ef, hO⟩ := T.C 22 (by decide) (by decide)
      have e : ex_eZ (h.2.2 22) c = some b := e
      rw [ef] at e; exact hO c b e
    | q + 4, hq, _ => exact absurd hq (by omega)
  · obtain ⟨f, ef, hO⟩ := T.C 24 (by decide) (by decide)
    have ei : ex_eZ (h.2.2 24) i = some t := ei
    rw [ef] at ei
    have ht := hO i t ei
    obtain ⟨_, _, _, _, _, _, _, _, d0, d1, d2, d3, _, _⟩ := T.D.1 t ht
    match q, hq, e with
    | 0, _, e =>
      obtain ⟨f, ef, hO⟩ := d0
      have e : ex_eZ (h.2.2 (t + 2)) c = some b := e
      rw [ef] at e; exact hO c b e
    | 1, _, e =>
      obtain ⟨f, ef, hO⟩ := d1
      have e : ex_eZ (h.2.2 (t + 3)) c = some b := e
      rw [ef] at e; exact hO c b e
    | 2, _, e =>
      obtain ⟨f, ef, hO⟩ := d2
      have e : ex_eZ (h.2.2 (t + 4)) c = some b := e
      rw [ef] at e; exact hO c b e
    | 3, _, e =>
      obtain ⟨f, ef, hO⟩ := d3
      have e : ex_eZ (h.2.2 (t + 5)) c = some b := e
      rw [ef] at e; exact hO c b e
    | q + 4, hq, _ => exact absurd hq (by omega)
theorem txc {q b c : Nat} (G : cl_G ck E) (hq : q < 4) (hk : ck b = kdm q) (c1 : b ≤ c) (c2 : c < b + tcl q) : 1 ≤ ck c ∧ ck c ≤ 14 := by
  match q, hq, hk, c2 with
  | 0, _, hk, c2 =>
    have hk : ck b = 1 := hk
    have c2 : c < b + 6 := c2
    obtain ⟨g1, g2, g3, g4, g5, _⟩ := G.2.1 b hk
    rcases (show c = b ∨ c = b + 1 ∨ c = b + 2 ∨ c = b + 3 ∨ c = b + 4 ∨ c = b + 5 by omega) with w | w | w | w | w | w <;> subst w <;> omega
  | 1, _, hk, c2 =>
    have hk : ck b = 7 := hk
    have c2 : c < b + 2 := c2
    obtain ⟨g1, _⟩ := G.2.2.1 b hk
    rcases (show c = b ∨ c = b + 1 by omega) with w | w <;> subst w <;> omega
  | 2, _, hk, c2 =>
    have hk : ck b = 9 := hk
    have c2 : c < b + 4 := c2
    obtain ⟨g1, g2, g3, _⟩ := G.2.2.2.1 b hk
    rcases (show c = b ∨ c = b + 1 ∨ c = b + 2 ∨ c = b + 3 by omega) with w | w | w | w <;> subst w <;> omega
  | 3, _, hk, c2 =>
    have hk : ck b = 13 := hk
    have c2 : c < b + 2 := c2
    obtain ⟨g1, _⟩ := G.2.2.2.2.1 b hk
    rcases (show c = b ∨ c = b + 1 by omega) with w | w <;> subst w <;> omega
  | q + 4, hq, _, _ => exact absurd hq (by omega)
theorem tsame_of {q b : Nat} (e : ∀ c, b ≤ c → c < b + tcl q → h1.2.2 c = h.2.2 c) : tsame q b (ex_V h) (ex_V h1) := fun c c1 c2 =>
  ⟨funext (fun j => congrArg (fun x => ex_eX x j) (e c c1 c2)), funext (fun j => congrArg (fun x => ex_eY x j) (e c c1 c2)), funext (fun j => congrArg (fun x => ex_eZ x j) (e c c1 c2))⟩
theorem tkeep_F {A : List Nat} {n s : Nat} (G : cl_G ck E) (T : cl_T ck E m o h) (F : cl_F ck A n s h h1) (hA : (A.all fun a => decide (a < 72)) = true) : tkeep (ex_V h) (ex_V h1) := fun t k I q hq c b _ e b72 => tsame_of (fun a a1 a2 => by
  obtain ⟨k1, k2⟩ := txc G hq (txk G T I hq e) a1 a2
  refine F.2.2.2.2 a (T.al rfl (by omega)) (fun z => ?_) (by omega)
  have := List.all_eq_true.mp hA a z
  simp only [decide_eq_true_eq] at this
  omega)
theorem tkeep_E (G : cl_G ck E) (T : cl_T ck E m o h) (T1 : cl_T ck1 E m1 o1 h1) (A1 : ∀ b, b < h.1 → ck1 b = ck b) : tkeep (ex_V h) (ex_V h1) := fun t k I q hq c b _ e b72 => tsame_of (fun a a1 a2 => by
  obtain ⟨k1, k2⟩ := txc G hq (txk G T I hq e) a1 a2
  have al : a < h.1 := T.al rfl (by omega)
  rw [T.2.2.2.2.2.2.2.2.2.2.2.1 a k1 k2]
  exact T1.2.2.2.2.2.2.2.2.2.2.2.1 a (by rw [A1 a al]; exact k1) (by rw [A1 a al]; exact k2))
theorem tkeep_R : tkeep (ex_V h) (ex_V h) := fun _ _ _ _ _ _ _ _ _ _ => fun _ _ _ => ⟨rfl, rfl, rfl⟩
theorem tkeep_hi (e : ∀ x, (x < 17 ∨ 23 < x) → h1.2.2 x = h.2.2 x) : tkeep (ex_V h) (ex_V h1) := fun t k I q hq c b _ _ b72 => tsame_of (fun a a1 a2 => e a (by omega))
theorem R2_cl {A : List Nat} {n s : Nat} (G : cl_G ck E) (T : cl_T ck E m o h) (F : cl_F ck A n s h h1) (hA : (A.all fun a => decide (a < 72) && decide (a < 17 ∨ 24 < a) && decide (a < 41)) = true) (R : R2 (ex_V h)) : R2 (ex_V h1) := by
  have nA : ∀ a ∈ A, (a < 17 ∨ 24 < a) ∧ a < 41 := fun a ha => by
    have := List.all_eq_true.mp hA a ha
    simp only [Bool.and_eq_true, decide_eq_true_eq] at this
    exact ⟨this.1.2, this.2⟩
  have hA' : (A.all fun a => decide (a < 72)) = true := List.all_eq_true.mpr (fun a ha => decide_eq_true (by have := nA a ha; omega))
  have low : ∀ a, (17 ≤ a ∧ a ≤ 24) ∨ (41 ≤ a ∧ a < 72) → h1.2.2 a = h.2.2 a := fun a ha => F.cell G (fun z => by have := nA a z; omega) (by omega) rfl
  refine ⟨R1_cl G T F hA R.1, R.2.keep (tkeep_F G T F hA') (fun t k I q hq => ?_) (fun i => congrArg (fun e => ex_eZ e i) (low 24 (by omega))) (fun c j h1 h2 => congrArg (fun e => ex_eX e j) (low c (by omega)))⟩
  have ce : ∀ c, t ≤ c → c < t + 7 → h1.2.2 c = h.2.2 c := fun c c1 c2 => by
    rcases I with ⟨et, _⟩ | ⟨i, hi, ei, _⟩
    · exact low c (by omega)
    · exact img_keep G T F hA' i t hi ei c c1 c2
  exact ⟨congrArg (fun e => ex_eX e q) (ce (t + 6) (by omega) (by omega)), fun c => congrArg (fun e => ex_eZ e c) (ce (t + 2 + q) (by omega) (by omega))⟩
theorem R2_rf {A : List Nat} (F : rf_G A h h2) (hA : (A.all fun a => decide (41 ≤ a) && decide (a < 71) && decide (a < 42 ∨ 50 < a)) = true) (R : R2 (ex_V h)) : R2 (ex_V h2) := by
  have nA : ∀ a ∈ A, 41 ≤ a ∧ a < 71 ∧ (a < 42 ∨ 50 < a) := fun a ha => by
    have := List.all_eq_true.mp hA a ha
    simp only [Bool.and_eq_true, decide_eq_true_eq] at this
    exact ⟨this.1.1, this.1.2, this.2⟩
  have no : ∀ a, a < 41 ∨ (42 ≤ a ∧ a ≤ 50) ∨ 70 < a → h2.2.2 a = h.2.2 a := fun a ha => F.2.2 a (fun z => by have := nA a z; omega)
  refine ⟨R1_rf F (List.all_eq_true.mpr (fun a ha => by
    have := nA a ha
    simp only [Bool.and_eq_true, decide_eq_true_eq]
    omega)) R.1, R.2.keep (fun t k I q hq c b _ e b72 => tsame_of (fun a a1 a2 => no a (by omega))) (fun t k I q hq => ?_) (fun i => congrArg (fun e => ex_eZ e i) (no 24 (by omega))) (fun c j h1 h2 => congrArg (fun e => ex_eX e j) (no c (by omega)))⟩
  have ce : ∀ c, t ≤ c → c < t + 7 → h2.2.2 c = h.2.2 c := fun c c1 c2 => by
    rcases I with ⟨et, _⟩ | ⟨i, hi, ei, _⟩
    · exact no c (by omega)
    · have := (R.1.2.1 i t hi ei).1
      exact no c (by omega)
  exact ⟨congrArg (fun e => ex_eX e q) (ce (t + 6) (by omega) (by omega)), fun c => congrArg (fun e => ex_eZ e c) (ce (t + 2 + q) (by omega) (by omega))⟩
theorem R2_feed {a0 a1 a2 a3 a4 v w : Int32} {S S1 S2 : ex_S} {n : Nat} (e : S.1 17 1 = Int32.ofNat n) (hn : n ≤ 600) (R : R2 S) (h1 : fF 18 17 1 a0 a1 a2 a3 a4 S v S1) (h2 : fF 42 43 0 a0 a1 a2 a3 a4 S1 w S2) : R2 S2 := ⟨(R_feed e hn R.1 h1 h2).2, RT_feed R.1 R.2 h1 h2⟩
theorem R2_end {a v w : Int32} {S S1 S2 : ex_S} (R : R2 S) (h1 : eE 17 1 a S v S1) (h2 : eE 43 0 a S1 w S2) : R2 S2 := ⟨(R_end R.1 h1 h2).2, RT_end R.1 R.2 h1 h2⟩
theorem R2_image {a v w : Int32} {S S1 S2 : ex_S} (R : R2 S) (W : tW S) (h1 : ciC a S v S1) (h2 : riC a S1 w S2) (tk : tkeep S S1) : R2 S2 := ⟨(R_image R.1 W h1 h2).2, RT_image R.1 R.2 W h1 h2 tk⟩
theorem R2_again {a v w : Int32} {S S1 S2 : ex_S} (R : R2 S) (W : tW S) (h1 : cgC a S v S1) (h2 : rgC a S1 w S2) (tk : tkeep S S1) : R2 S2 := ⟨(R_again R.1 W h1 h2).2, RT_again R.1 R.2 W h1 h2 tk⟩
theorem cq10_of (T : cl_T ck E m o h) : cq10 (ex_V h) := by
  obtain ⟨f26, e26⟩ := T.C 26 (by decide) (by decide)
  obtain ⟨f27, e27⟩ := T.C 27 (by decide) (by decide)
  refine ⟨?_, ?_⟩
  · show ex_eL (h.2.2 26) = 200
    rw [e26]; rfl
  · show ex_eL (h.2.2 27) = 64
    rw [e27]; rfl
theorem seats_of (G : cl_G ck E) (T : cl_T ck E m o h) (i b : Nat) (e : (ex_V h).2.2.1 21 i = some b) : ∃ sn, (ex_V h).1 b 0 = Int32.ofNat sn ∧ sn ≤ 6 := by
  obtain ⟨f, ef, hO⟩ := T.C 21 (by decide) (by decide)
  have e : ex_eZ (h.2.2 21) i = some b := e
  rw [ef] at e
  have hk : ck b = 9 := hO i b e
  obtain ⟨_, _, _, s, n, _, _, _, _, s6, _, eE, _⟩ := G.2.2.2.1 b hk
  refine ⟨s, ?_, s6⟩
  show ex_eX (h.2.2 b) 0 = _
  rw [T.2.2.2.2.2.2.2.2.2.2.2.1 b (by omega) (by omega), eE]; rfl
theorem R2_text_h {A : List Nat} {n s nn : Nat} {x1 x2 r1 r2 : Int32} (G : cl_G ck E) (T : cl_T ck E m o h) (F : cl_F ck A n s h h1) (hA : (A.all fun a => decide (a < 72)) = true) (en : (ex_V h).1 17 1 = Int32.ofNat nn) (hnn : nn ≤ 600) (K : ex_K h) (R : R2 (ex_V h)) (P1 : cxC x1 x2 (ex_V h) r1 (ex_V h1)) (D1 : cxD x1 x2 (ex_V h) r1 (ex_V h1)) (ot : ∀ a, 41 ≤ a → a < 72 → h1.2.2 a = h.2.2 a) (g24 : h1.2.2 24 = h.2.2 24) (G1 : cl_G ck1 E1) (T1 : cl_T ck1 E1 m1 o1 h1) (Tr1 : rf_T mr wr h1) (P2 : rxC x1 x2 (ex_V h1) r2 (ex_V h2)) (D2 : rxD x1 x2 (ex_V h1) r2 (ex_V h2)) (hi2 : ∀ a, (a < 41 ∨ 71 < a) → h2.2.2 a = h1.2.2 a) : r1 = r2 ∧ R2 (ex_V h2) := by
  have v1 : ∀ c j, 41 ≤ c → c < 72 → (ex_V h1).1 c j = (ex_V h).1 c j := fun c j c1 c2 => congrArg (fun e => ex_eX e j) (ot c c1 c2)
  have e43 : (ex_V h1).1 43 0 = Int32.ofNat nn := (v1 43 0 (by decide) (by decide)).trans ((R.1.1.2.1 1 (by decide) (by decide)).symm.trans en)
  have hB : ∀ i, sf_B (-128) 127 ((ex_V h1).1 42 i) := fun i => by rw [v1 42 i (by decide) (by decide)]; exact R.1.2.2.2 i
  obtain ⟨vw, RR⟩ := R_text_h G T F hA en hnn K R.1 P1 ot g24 Tr1 P2 hi2
  refine ⟨vw, RR, RT_text en (cq11_of T K hnn) (cq10_of T) R.1 R.2 P1 D1 v1 (fun i => congrArg (fun e => ex_eZ e i) g24) (fun i b hi eb c c1 c2 => ?_) (tkeep_F G T F hA) (fun b e => seats_of G1 T1 _ b e) (rxq_of Tr1 e43 hnn hB) P2 D2 (fun c hc => funext (fun j => congrArg (fun e => ex_eX e j) (hi2 c hc))) (fun c hc => funext (fun j => congrArg (fun e => ex_eY e j) (hi2 c hc))) (fun c hc => funext (fun j => congrArg (fun e => ex_eZ e j) (hi2 c hc))) vw⟩
  have e := img_keep G T F hA i b hi eb c c1 c2
  exact ⟨funext (fun j => congrArg (fun x => ex_eX x j) e), funext (fun j => congrArg (fun x => ex_eZ x j) e)⟩
end
def p6_I (L : Nat) (xs : Nat → Int32) (j : Nat) (h : pm_H) : Prop := p2_I L xs j h ∧ ex_W h ∧ ex_K h ∧ R2 (ex_V h)
theorem p6_I0 {fm : Bool} {L : Nat} {xs : Nat → Int32} {f : Nat → pm_E} (hf : ∀ i, i < 72 → f i = pm_fF fm L xs i) (I : p2_I L xs 0 (72, 52657, f)) : p6_I L xs 0 (72, 52657, f) := by
  refine ⟨I, (p4_K0 hf).1, (p4_K0 hf).2, p4_R0 hf, fun t k T m hm c hc hl => ?_⟩
  exfalso
  rcases T with ⟨et, _⟩ | ⟨i, hi, ei, _⟩
  · subst et
    have hl : Int32.ofNat c < ex_eX (f 23) m := hl
    rw [hf 23 (by decide)] at hl
    have hl : Int32.ofNat c < 0 := hl
    have l := Int32.lt_iff_toInt_lt.mp hl
    have tl := tlen_le m
    rw [n32_i (by omega), show (0 : Int32).toInt = 0 from rfl] at l
    omega
  · have ei : ex_eZ (f 24) i = some t := ei
    rw [hf 24 (by decide)] at ei
    have e2 : (none : Option Nat) = some t := ei
    cases e2
end
section
/-- SilentTable.list(II)I -/
def es61 (C : Int32 → Int32 → ex_S → Int32 → ex_S → Prop) : Prop := ∀ (N d : Nat) (a0 : Int32) (a1 : Int32) (S : ex_S), ex_P N d 61 0 [.ref 16, .int a0, .int a1, pm_no] [] S (fun r S_q => ∃ v, r = some (.int v) ∧ C a0 a1 S v S_q)
/-- SilentTable.rule(III)I -/
def es63 (C : Int32 → Int32 → Int32 → ex_S → Int32 → ex_S → Prop) : Prop := ∀ (N d : Nat) (a0 : Int32) (a1 : Int32) (a2 : Int32) (S : ex_S), ex_P N d 63 0 [.ref 16, .int a0, .int a1, .int a2, pm_no] [] S (fun r S_q => ∃ v, r = some (.int v) ∧ C a0 a1 a2 S v S_q)
/-- SilentTable.reading(III)I -/
def es64 (C : Int32 → Int32 → Int32 → ex_S → Int32 → ex_S → Prop) : Prop := ∀ (N d : Nat) (a0 : Int32) (a1 : Int32) (a2 : Int32) (S : ex_S), ex_P N d 64 0 [.ref 16, .int a0, .int a1, .int a2, pm_no] [] S (fun r S_q => ∃ v, r = some (.int v) ∧ C a0 a1 a2 S v S_q)
/-- SilentTable.row(II)I -/
def es65 (C : Int32 → Int32 → ex_S → Int32 → ex_S → Prop) : Prop := ∀ (N d : Nat) (a0 : Int32) (a1 : Int32) (S : ex_S), ex_P N d 65 0 [.ref 16, .int a0, .int a1, pm_no] [] S (fun r S_q => ∃ v, r = some (.int v) ∧ C a0 a1 S v S_q)
/-- SilentTable.countOrOne(JI)I -/
def es107 (C : Int64 → Int32 → ex_S → Int32 → ex_S → Prop) : Prop := ∀ (N d : Nat) (a0 : Int64) (a1 : Int32) (S : ex_S), ex_P N d 107 0 [.long a0, pm_no, .int a1, pm_no, pm_no, pm_no] [] S (fun r S_q => ∃ v, r = some (.int v) ∧ C a0 a1 S v S_q)
/-- java/lang/Long.bitCount(J)I -/
def es108 (C : Int64 → ex_S → Int32 → ex_S → Prop) : Prop := ∀ (N d : Nat) (a0 : Int64) (S : ex_S), ex_P N d 108 0 [.long a0, pm_no] [] S (fun r S_q => ∃ v, r = some (.int v) ∧ C a0 S v S_q)
/-- java/lang/Integer.bitCount(I)I -/
def es116 (C : Int32 → ex_S → Int32 → ex_S → Prop) : Prop := ∀ (N d : Nat) (a0 : Int32) (S : ex_S), ex_P N d 116 0 [.int a0] [] S (fun r S_q => ∃ v, r = some (.int v) ∧ C a0 S v S_q)
/-- SilentTable.law(III)I -/
def es162 (C : Int32 → Int32 → Int32 → ex_S → Int32 → ex_S → Prop) : Prop := ∀ (N d : Nat) (a0 : Int32) (a1 : Int32) (a2 : Int32) (S : ex_S), ex_P N d 162 0 [.ref 16, .int a0, .int a1, .int a2, pm_no] [] S (fun r S_q => ∃ v, r = some (.int v) ∧ C a0 a1 a2 S v S_q)
/-- SilentTableModel.list(II)I -/
def es195 (C : Int32 → Int32 → ex_S → Int32 → ex_S → Prop) : Prop := ∀ (N d : Nat) (a0 : Int32) (a1 : Int32) (S : ex_S), ex_P N d 195 0 [.ref 41, .int a0, .int a1] [] S (fun r S_q => ∃ v, r = some (.int v) ∧ C a0 a1 S v S_q)
/-- SilentTableModel.rule(III)I -/
def es196 (C : Int32 → Int32 → Int32 → ex_S → Int32 → ex_S → Prop) : Prop := ∀ (N d : Nat) (a0 : Int32) (a1 : Int32) (a2 : Int32) (S : ex_S), ex_P N d 196 0 [.ref 41, .int a0, .int a1, .int a2] [] S (fun r S_q => ∃ v, r = some (.int v) ∧ C a0 a1 a2 S v S_q)
/-- SilentTableModel.reading(III)I -/
def es197 (C : Int32 → Int32 → Int32 → ex_S → Int32 → ex_S → Prop) : Prop := ∀ (N d : Nat) (a0 : Int32) (a1 : Int32) (a2 : Int32) (S : ex_S), ex_P N d 197 0 [.ref 41, .int a0, .int a1, .int a2] [] S (fun r S_q => ∃ v, r = some (.int v) ∧ C a0 a1 a2 S v S_q)
/-- SilentTableModel.row(II)I -/
def es198 (C : Int32 → Int32 → ex_S → Int32 → ex_S → Prop) : Prop := ∀ (N d : Nat) (a0 : Int32) (a1 : Int32) (S : ex_S), ex_P N d 198 0 [.ref 41, .int a0, .int a1] [] S (fun r S_q => ∃ v, r = some (.int v) ∧ C a0 a1 S v S_q)
/-- SilentTableModel.tell(JI)I -/
def es221 (C : Int64 → Int32 → ex_S → Int32 → ex_S → Prop) : Prop := ∀ (N d : Nat) (a0 : Int64) (a1 : Int32) (S : ex_S), ex_P N d 221 0 [.long a0, pm_no, .int a1, pm_no, pm_no] [] S (fun r S_q => ∃ v, r = some (.int v) ∧ C a0 a1 S v S_q)
/-- SilentTableModel.manyOf(J)I -/
def es222 (C : Int64 → ex_S → Int32 → ex_S → Prop) : Prop := ∀ (N d : Nat) (a0 : Int64) (S : ex_S), ex_P N d 222 0 [.long a0, pm_no, pm_no, pm_no] [] S (fun r S_q => ∃ v, r = some (.int v) ∧ C a0 S v S_q)
/-- SilentTableModel.law(III)I -/
def es271 (C : Int32 → Int32 → Int32 → ex_S → Int32 → ex_S → Prop) : Prop := ∀ (N d : Nat) (a0 : Int32) (a1 : Int32) (a2 : Int32) (S : ex_S), ex_P N d 271 0 [.ref 41, .int a0, .int a1, .int a2] [] S (fun r S_q => ∃ v, r = some (.int v) ∧ C a0 a1 a2 S v S_q)
end
section
set_option maxRecDepth 100000 in
set_option maxHeartbeats 4000000 in
/-- SilentTableModel.list -/
theorem ev195 {C : Int32 → Int32 → ex_S → Int32 → ex_S → Prop} 
    (v0 : ∀ (a0 : Int32) (a1 : Int32) (S : ex_S), vf174 a0 0 ((S.1 46 0) - 1) = 0 → C a0 a1 S (-1) (ex_sx S 41 0 0)) 
    (v1 : ∀ (a0 : Int32) (a1 : Int32) (S : ex_S), ¬ (vf174 a0 0 ((S.1 46 0) - 1) = 0) → ¬ vf174 a1 0 1 = 0 → 2 ≤ a1 → C a0 a1 S (S.1 47 (((100 * a0) + ((90 + a1) - 10)).toNatClampNeg)) (ex_sx S 41 0 0)) 
    (v2 : ∀ (a0 : Int32) (a1 : Int32) (S : ex_S), ¬ (vf174 a0 0 ((S.1 46 0) - 1) = 0) → ¬ vf174 a1 0 1 = 0 → ¬ (2 ≤ a1) → C a0 a1 S (S.1 47 (((100 * a0) + a1).toNatClampNeg)) (ex_sx S 41 0 0)) 
    (v3 : ∀ (a0 : Int32) (a1 : Int32) (S : ex_S), ¬ (vf174 a0 0 ((S.1 46 0) - 1) = 0) → ¬ (¬ vf174 a1 0 1 = 0) → vf174 a1 10 19 = 0 → C a0 a1 S (-1) (ex_sx S 41 0 0)) 
    (v4 : ∀ (a0 : Int32) (a1 : Int32) (S : ex_S), ¬ (vf174 a0 0 ((S.1 46 0) - 1) = 0) → ¬ (¬ vf174 a1 0 1 = 0) → ¬ (vf174 a1 10 19 = 0) → 2 ≤ a1 → C a0 a1 S (S.1 47 (((100 * a0) + ((90 + a1) - 10)).toNatClampNeg)) (ex_sx S 41 0 0)) 
    (v5 : ∀ (a0 : Int32) (a1 : Int32) (S : ex_S), ¬ (vf174 a0 0 ((S.1 46 0) - 1) = 0) → ¬ (¬ vf174 a1 0 1 = 0) → ¬ (vf174 a1 10 19 = 0) → ¬ (2 ≤ a1) → C a0 a1 S (S.1 47 (((100 * a0) + a1).toNatClampNeg)) (ex_sx S 41 0 0)) : es195 C := by
  intro N d a0 a1 S
  refine ex_lo pm_M195 (pc_q := 1) (ls_q := [.ref 41, .int a0, .int a1]) (st_q := [.ref 41]) rfl rfl rfl ?_
  refine ex_op pm_M195 (pc_q := 2) (st_q := [.int 0, .ref 41]) rfl rfl rfl ?_
  refine ex_putI pm_M195 (pc_q := 5) rfl rfl rfl rfl rfl ?_
  refine ex_lo pm_M195 (pc_q := 6) (ls_q := [.ref 41, .int a0, .int a1]) (st_q := [.ref 41]) rfl rfl rfl ?_
  refine ex_op pm_M195 (pc_q := 7) (st_q := [.int 0, .ref 41]) rfl rfl rfl ?_
  refine ex_lo pm_M195 (pc_q := 8) (ls_q := [.ref 41, .int a0, .int a1]) (st_q := [.int a0, .int 0, .ref 41]) rfl rfl rfl ?_
  refine ex_call pm_M195 (pc_q := 11) (ix := 244) (callee := 177) (np := 2) (kd := 0) (ra := [.int a0, .int 0, .ref 41]) (rest := []) rfl rfl rfl rfl pm_M177 rfl rfl rfl rfl (fun d1 => ?_)
  refine ex_lo pm_M177 (pc_q := 1) (ls_q := [.ref 41, .int 0, .int a0]) (st_q := [.int a0]) rfl rfl rfl ?_
  refine ex_op pm_M177 (pc_q := 2) (st_q := [.int 0, .int a0]) rfl rfl rfl ?_
  refine ex_lo pm_M177 (pc_q := 3) (ls_q := [.ref 41, .int 0, .int a0]) (st_q := [.ref 41, .int 0, .int a0]) rfl rfl rfl ?_
  refine ex_getK pm_M177 (pc_q := 6) (j := 29) (b := 46) rfl rfl rfl rfl rfl ?_
  refine ex_lo pm_M177 (pc_q := 7) (ls_q := [.ref 41, .int 0, .int a0]) (st_q := [.int 0, .ref 46, .int 0, .int a0]) rfl rfl rfl ?_
  refine ex_iald' pm_M177 (pc_q := 8) (v := S.1 46 0) rfl rfl rfl ?_
  refine ex_op pm_M177 (pc_q := 9) (st_q := [.int 1, .int (S.1 46 0), .int 0, .int a0]) rfl rfl rfl ?_
  refine ex_op pm_M177 (pc_q := 10) (st_q := [.int ((S.1 46 0) - 1), .int 0, .int a0]) rfl rfl rfl ?_
  refine ex_call pm_M177 (pc_q := 13) (ix := 112) (callee := 174) (np := 3) (kd := 2) (ra := [.int ((S.1 46 0) - 1), .int 0, .int a0]) (rest := []) rfl rfl rfl rfl pm_M174 rfl rfl rfl rfl (fun d2 => (ef174 _ d2 a0 0 ((S.1 46 0) - 1) (ex_sx S 41 0 0)).mono (fun r S1 e => ?_))
  obtain ⟨rfl, e2⟩ := e
  rw [e2]
  show ex_P _ _ 177 13 [.ref 41, .int 0, .int a0] [.int (vf174 a0 0 ((S.1 46 0) - 1))] (ex_sx S 41 0 0) _
  refine ex_retI pm_M177 rfl ?_
  show ex_P _ _ 195 11 [.ref 41, .int a0, .int a1] [.int (vf174 a0 0 ((S.1 46 0) - 1))] (ex_sx S 41 0 0) _
  refine ex_ifc pm_M195 (t := 63) (pc_q := 14) rfl rfl rfl (fun c3 => ?_) (fun c3 => ?_)
  · -- vf174 a0 0 ((S.1 46 0) - 1) = 0
    refine ex_op pm_M195 (pc_q := 64) (st_q := [.int (-1)]) rfl rfl rfl ?_
    exact ex_retI pm_M195 rfl (⟨_, rfl, v0 a0 a1 S c3⟩)
  · -- not
    refine ex_lo pm_M195 (pc_q := 15) (ls_q := [.ref 41, .int a0, .int a1]) (st_q := [.int a1]) rfl rfl rfl ?_
    refine ex_op pm_M195 (pc_q := 16) (st_q := [.int 0, .int a1]) rfl rfl rfl ?_
    refine ex_op pm_M195 (pc_q := 17) (st_q := [.int 1, .int 0, .int a1]) rfl rfl rfl ?_
    refine ex_call pm_M195 (pc_q := 20) (ix := 112) (callee := 174) (np := 3) (kd := 2) (ra := [.int 1, .int 0, .int a1]) (rest := []) rfl rfl rfl rfl pm_M174 rfl rfl rfl rfl (fun d4 => (ef174 _ d4 a1 0 1 (ex_sx S 41 0 0)).mono (fun r S1 e => ?_))
    obtain ⟨rfl, e2⟩ := e
    rw [e2]
    show ex_P _ _ 195 20 [.ref 41, .int a0, .int a1] [.int (vf174 a1 0 1)] (ex_sx S 41 0 0) _
    refine ex_ifc pm_M195 (t := 34) (pc_q := 23) rfl rfl rfl (fun c5 => ?_) (fun c5 => ?_)
    · -- ¬ vf174 a1 0 1 = 0
      refine ex_lo pm_M195 (pc_q := 35) (ls_q := [.ref 41, .int a0, .int a1]) (st_q := [.ref 41]) rfl rfl rfl ?_
      refine ex_getK pm_M195 (pc_q := 38) (j := 30) (b := 47) rfl rfl rfl rfl rfl ?_
      refine ex_op pm_M195 (pc_q := 40) (st_q := [.int 100, .ref 47]) rfl rfl rfl ?_
      refine ex_lo pm_M195 (pc_q := 41) (ls_q := [.ref 41, .int a0, .int a1]) (st_q := [.int a0, .int 100, .ref 47]) rfl rfl rfl ?_
      refine ex_op pm_M195 (pc_q := 42) (st_q := [.int (100 * a0), .ref 47]) rfl rfl rfl ?_
      refine ex_lo pm_M195 (pc_q := 43) (ls_q := [.ref 41, .int a0, .int a1]) (st_q := [.int a1, .int (100 * a0), .ref 47]) rfl rfl rfl ?_
      refine ex_op pm_M195 (pc_q := 44) (st_q := [.int 2, .int a1, .int (100 * a0), .ref 47]) rfl rfl rfl ?_
      refine ex_icmp pm_M195 (t := 51) (pc_q := 47) rfl rfl rfl (fun c6 => ?_) (fun c6 => ?_)
      · -- 2 ≤ a1
        refine ex_op pm_M195 (pc_q := 53) (st_q := [.int 90, .int (100 * a0), .ref 47]) rfl rfl rfl ?_
        refine ex_lo pm_M195 (pc_q := 54) (ls_q := [.ref 41, .int a0, .int a1]) (st_q := [.int a1, .int 90, .int (100 * a0), .ref 47]) rfl rfl rfl ?_
        refine ex_op pm_M195 (pc_q := 55) (st_q := [.int (90 + a1), .int (100 * a0), .ref 47]) rfl rfl rfl ?_
        refine ex_op pm_M195 (pc_q := 57) (st_q := [.int 10, .int (90 + a1), .int (100 * a0), .ref 47]) rfl rfl rfl ?_
        refine ex_op pm_M195 (pc_q := 58) (st_q := [.int ((90 + a1) - 10), .int (100 * a0), .ref 47]) rfl rfl rfl ?_
        refine ex_op pm_M195 (pc_q := 59) (st_q := [.int ((100 * a0) + ((90 + a1) - 10)), .ref 47]) rfl rfl rfl ?_
        refine ex_iald' pm_M195 (pc_q := 60) (v := S.1 47 (((100 * a0) + ((90 + a1) - 10)).toNatClampNeg)) rfl rfl rfl ?_
        refine ex_br pm_M195 (pc_q := 64) (st_q := [.int (S.1 47 (((100 * a0) + ((90 + a1) - 10)).toNatClampNeg))]) rfl rfl ?_
        exact ex_retI pm_M195 rfl (⟨_, rfl, v1 a0 a1 S c3 c5 c6⟩)
      · -- not
        refine ex_lo pm_M195 (pc_q := 48) (ls_q := [.ref 41, .int a0, .int a1]) (st_q := [.int a1, .int (100 * a0), .ref 47]) rfl rfl rfl ?_
        refine ex_br pm_M195 (pc_q := 58) (st_q := [.int a1, .int (100 * a0), .ref 47]) rfl rfl ?_
        refine ex_op pm_M195 (pc_q := 59) (st_q := [.int ((100 * a0) + a1), .ref 47]) rfl rfl rfl ?_
        refine ex_iald' pm_M195 (pc_q := 60) (v := S.1 47 (((100 * a0) + a1).toNatClampNeg)) rfl rfl rfl ?_
        refine ex_br pm_M195 (pc_q := 64) (st_q := [.int (S.1 47 (((100 * a0) + a1).toNatClampNeg))]) rfl rfl ?_
        exact ex_retI pm_M195 rfl (⟨_, rfl, v2 a0 a1 S c3 c5 c6⟩)
    · -- not
      refine ex_lo pm_M195 (pc_q := 24) (ls_q := [.ref 41, .int a0, .int a1]) (st_q := [.int a1]) rfl rfl rfl ?_
      refine ex_op pm_M195 (pc_q := 26) (st_q := [.int 10, .int a1]) rfl rfl rfl ?_
      refine ex_op pm_M195 (pc_q := 28) (st_q := [.int 19, .int 10, .int a1]) rfl rfl rfl ?_
      refine ex_call pm_M195 (pc_q := 31) (ix := 112) (callee := 174) (np := 3) (kd := 2) (ra := [.int 19, .int 10, .int a1]) (rest := []) rfl rfl rfl rfl pm_M174 rfl rfl rfl rfl (fun d7 => (ef174 _ d7 a1 10 19 (ex_sx S 41 0 0)).mono (fun r S1 e => ?_))
      obtain ⟨rfl, e2⟩ := e
      rw [e2]
      show ex_P _ _ 195 31 [.ref 41, .int a0, .int a1] [.int (vf174 a1 10 19)] (ex_sx S 41 0 0) _
      refine ex_ifc pm_M195 (t := 63) (pc_q := 34) rfl rfl rfl (fun c8 => ?_) (fun c8 => ?_)
      · -- vf174 a1 10 19 = 0
        refine ex_op pm_M195 (pc_q := 64) (st_q := [.int (-1)]) rfl rfl rfl ?_
        exact ex_retI pm_M195 rfl (⟨_, rfl, v3 a0 a1 S c3 c5 c8⟩)
      · -- not
        refine ex_lo pm_M195 (pc_q := 35) (ls_q := [.ref 41, .int a0, .int a1]) (st_q := [.ref 41]) rfl rfl rfl ?_
        refine ex_getK pm_M195 (pc_q := 38) (j := 30) (b := 47) rfl rfl rfl rfl rfl ?_
        refine ex_op pm_M195 (pc_q := 40) (st_q := [.int 100, .ref 47]) rfl rfl rfl ?_
        refine ex_lo pm_M195 (pc_q := 41) (ls_q := [.ref 41, .int a0, .int a1]) (st_q := [.int a0, .int 100, .ref 47]) rfl rfl rfl ?_
        refine ex_op pm_M195 (pc_q := 42) (st_q := [.int (100 * a0), .ref 47]) rfl rfl rfl ?_
        refine ex_lo pm_M195 (pc_q := 43) (ls_q := [.ref 41, .int a0, .int a1]) (st_q := [.int a1, .int (100 * a0), .ref 47]) rfl rfl rfl ?_
        refine ex_op pm_M195 (pc_q := 44) (st_q := [.int 2, .int a1, .int (100 * a0), .ref 47]) rfl rfl rfl ?_
        refine ex_icmp pm_M195 (t := 51) (pc_q := 47) rfl rfl rfl (fun c9 => ?_) (fun c9 => ?_)
        · -- 2 ≤ a1
          refine ex_op pm_M195 (pc_q := 53) (st_q := [.int 90, .int (100 * a0), .ref 47]) rfl rfl rfl ?_
          refine ex_lo pm_M195 (pc_q := 54) (ls_q := [.ref 41, .int a0, .int a1]) (st_q := [.int a1, .int 90, .int (100 * a0), .ref 47]) rfl rfl rfl ?_
          refine ex_op pm_M195 (pc_q := 55) (st_q := [.int (90 + a1), .int (100 * a0), .ref 47]) rfl rfl rfl ?_
          refine ex_op pm_M195 (pc_q := 57) (st_q := [.int 10, .int (90 + a1), .int (100 * a0), .ref 47]) rfl rfl rfl ?_
          refine ex_op pm_M195 (pc_q := 58) (st_q := [.int ((90 + a1) - 10), .int (100 * a0), .ref 47]) rfl rfl rfl ?_
          refine ex_op pm_M195 (pc_q := 59) (st_q := [.int ((100 * a0) + ((90 + a1) - 10)), .ref 47]) rfl rfl rfl ?_
          refine ex_iald' pm_M195 (pc_q := 60) (v := S.1 47 (((100 * a0) + ((90 + a1) - 10)).toNatClampNeg)) rfl rfl rfl ?_
          refine ex_br pm_M195 (pc_q := 64) (st_q := [.int (S.1 47 (((100 * a0) + ((90 + a1) - 10)).toNatClampNeg))]) rfl rfl ?_
          exact ex_retI pm_M195 rfl (⟨_, rfl, v4 a0 a1 S c3 c5 c8 c9⟩)
        · -- not
          refine ex_lo pm_M195 (pc_q := 48) (ls_q := [.ref 41, .int a0, .int a1]) (st_q := [.int a1, .int (100 * a0), .ref 47]) rfl rfl rfl ?_
          refine ex_br pm_M195 (pc_q := 58) (st_q := [.int a1, .int (100 * a0), .ref 47]) rfl rfl ?_
          refine ex_op pm_M195 (pc_q := 59) (st_q := [.int ((100 * a0) + a1), .ref 47]) rfl rfl rfl ?_
          refine ex_iald' pm_M195 (pc_q := 60) (v := S.1 47 (((100 * a0) + a1).toNatClampNeg)) rfl rfl rfl ?_
          refine ex_br pm_M195 (pc_q := 64) (st_q := [.int (S.1 47 (((100 * a0) + a1).toNatClampNeg))]) rfl rfl ?_
          exact ex_retI pm_M195 rfl (⟨_, rfl, v5 a0 a1 S c3 c5 c8 c9⟩)
set_option maxRecDepth 100000 in
set_option maxHeartbeats 4000000 in
/-- SilentTableModel.rule -/
theorem ev196 {C : Int32 → Int32 → Int32 → ex_S → Int32 → ex_S → Prop} 
    (v0 : ∀ (a0 : Int32) (a1 : Int32) (a2 : Int32) (S : ex_S), vf174 a0 0 ((S.1 46 0) - 1) = 0 → C a0 a1 a2 S (-1) (ex_sx S 41 0 0)) 
    (v1 : ∀ (a0 : Int32) (a1 : Int32) (a2 : Int32) (S : ex_S), ¬ (vf174 a0 0 ((S.1 46 0) - 1) = 0) → vf174 a1 0 ((S.1 47 ((100 * a0).toNatClampNeg)) - 1) = 0 → C a0 a1 a2 S (-1) (ex_sx S 41 0 0)) 
    (v2 : ∀ (a0 : Int32) (a1 : Int32) (a2 : Int32) (S : ex_S), ¬ (vf174 a0 0 ((S.1 46 0) - 1) = 0) → ¬ (vf174 a1 0 ((S.1 47 ((100 * a0).toNatClampNeg)) - 1) = 0) → vf174 a2 0 3 = 0 → C a0 a1 a2 S (-1) (ex_sx S 41 0 0)) 
    (v3 : ∀ (a0 : Int32) (a1 : Int32) (a2 : Int32) (S : ex_S), ¬ (vf174 a0 0 ((S.1 46 0) - 1) = 0) → ¬ (vf174 a1 0 ((S.1 47 ((100 * a0).toNatClampNeg)) - 1) = 0) → ¬ (vf174 a2 0 3 = 0) → C a0 a1 a2 S (S.1 47 (((((100 * a0) + 2) + (4 * a1)) + a2).toNatClampNeg)) (ex_sx S 41 0 0)) : es196 C := by
  intro N d a0 a1 a2 S
  refine ex_lo pm_M196 (pc_q := 1) (ls_q := [.ref 41, .int a0, .int a1, .int a2]) (st_q := [.ref 41]) rfl rfl rfl ?_
  refine ex_op pm_M196 (pc_q := 2) (st_q := [.int 0, .ref 41]) rfl rfl rfl ?_
  refine ex_putI pm_M196 (pc_q := 5) rfl rfl rfl rfl rfl ?_
  refine ex_lo pm_M196 (pc_q := 6) (ls_q := [.ref 41, .int a0, .int a1, .int a2]) (st_q := [.ref 41]) rfl rfl rfl ?_
  refine ex_op pm_M196 (pc_q := 7) (st_q := [.int 0, .ref 41]) rfl rfl rfl ?_
  refine ex_lo pm_M196 (pc_q := 8) (ls_q := [.ref 41, .int a0, .int a1, .int a2]) (st_q := [.int a0, .int 0, .ref 41]) rfl rfl rfl ?_
  refine ex_call pm_M196 (pc_q := 11) (ix := 244) (callee := 177) (np := 2) (kd := 0) (ra := [.int a0, .int 0, .ref 41]) (rest := []) rfl rfl rfl rfl pm_M177 rfl rfl rfl rfl (fun d1 => ?_)
  refine ex_lo pm_M177 (pc_q := 1) (ls_q := [.ref 41, .int 0, .int a0]) (st_q := [.int a0]) rfl rfl rfl ?_
  refine ex_op pm_M177 (pc_q := 2) (st_q := [.int 0, .int a0]) rfl rfl rfl ?_
  refine ex_lo pm_M177 (pc_q := 3) (ls_q := [.ref 41, .int 0, .int a0]) (st_q := [.ref 41, .int 0, .int a0]) rfl rfl rfl ?_
  refine ex_getK pm_M177 (pc_q := 6) (j := 29) (b := 46) rfl rfl rfl rfl rfl ?_
  refine ex_lo pm_M177 (pc_q := 7) (ls_q := [.ref 41, .int 0, .int a0]) (st_q := [.int 0, .ref 46, .int 0, .int a0]) rfl rfl rfl ?_
  refine ex_iald' pm_M177 (pc_q := 8) (v := S.1 46 0) rfl rfl rfl ?_
  refine ex_op pm_M177 (pc_q := 9) (st_q := [.int 1, .int (S.1 46 0), .int 0, .int a0]) rfl rfl rfl ?_
  refine ex_op pm_M177 (pc_q := 10) (st_q := [.int ((S.1 46 0) - 1), .int 0, .int a0]) rfl rfl rfl ?_
  refine ex_call pm_M177 (pc_q := 13) (ix := 112) (callee := 174) (np := 3) (kd := 2) (ra := [.int ((S.1 46 0) - 1), .int 0, .int a0]) (rest := []) rfl rfl rfl rfl pm_M174 rfl rfl rfl rfl (fun d2 => (ef174 _ d2 a0 0 ((S.1 46 0) - 1) (ex_sx S 41 0 0)).mono (fun r S1 e => ?_))
  obtain ⟨rfl, e2⟩ := e
  rw [e2]
  show ex_P _ _ 177 13 [.ref 41, .int 0, .int a0] [.int (vf174 a0 0 ((S.1 46 0) - 1))] (ex_sx S 41 0 0) _
  refine ex_retI pm_M177 rfl ?_
  show ex_P _ _ 196 11 [.ref 41, .int a0, .int a1, .int a2] [.int (vf174 a0 0 ((S.1 46 0) - 1))] (ex_sx S 41 0 0) _
  refine ex_ifc pm_M196 (t := 62) (pc_q := 14) rfl rfl rfl (fun c3 => ?_) (fun c3 => ?_)
  · -- vf174 a0 0 ((S.1 46 0) - 1) = 0
    refine ex_op pm_M196 (pc_q := 63) (st_q := [.int (-1)]) rfl rfl rfl ?_
    exact ex_retI pm_M196 rfl (⟨_, rfl, v0 a0 a1 a2 S c3⟩)
  · -- not
    refine ex_lo pm_M196 (pc_q := 15) (ls_q := [.ref 41, .int a0, .int a1, .int a2]) (st_q := [.int a1]) rfl rfl rfl ?_
    refine ex_op pm_M196 (pc_q := 16) (st_q := [.int 0, .int a1]) rfl rfl rfl ?_
    refine ex_lo pm_M196 (pc_q := 17) (ls_q := [.ref 41, .int a0, .int a1, .int a2]) (st_q := [.ref 41, .int 0, .int a1]) rfl rfl rfl ?_
    refine ex_getK pm_M196 (pc_q := 20) (j := 30) (b := 47) rfl rfl rfl rfl rfl ?_
    refine ex_op pm_M196 (pc_q := 22) (st_q := [.int 100, .ref 47, .int 0, .int a1]) rfl rfl rfl ?_
    refine ex_lo pm_M196 (pc_q := 23) (ls_q := [.ref 41, .int a0, .int a1, .int a2]) (st_q := [.int a0, .int 100, .ref 47, .int 0, .int a1]) rfl rfl rfl ?_
    refine ex_op pm_M196 (pc_q := 24) (st_q := [.int (100 * a0), .ref 47, .int 0, .int a1]) rfl rfl rfl ?_
    refine ex_iald' pm_M196 (pc_q := 25) (v := S.1 47 ((100 * a0).toNatClampNeg)) rfl rfl rfl ?_
    refine ex_op pm_M196 (pc_q := 26) (st_q := [.int 1, .int (S.1 47 ((100 * a0).toNatClampNeg)), .int 0, .int a1]) rfl rfl rfl ?_
    refine ex_op pm_M196 (pc_q := 27) (st_q := [.int ((S.1 47 ((100 * a0).toNatClampNeg)) - 1), .int 0, .int a1]) rfl rfl rfl ?_
    refine ex_call pm_M196 (pc_q := 30) (ix := 112) (callee := 174) (np := 3) (kd := 2) (ra := [.int ((S.1 47 ((100 * a0).toNatClampNeg)) - 1), .int 0, .int a1]) (rest := []) rfl rfl rfl rfl pm_M174 rfl rfl rfl rfl (fun d4 => (ef174 _ d4 a1 0 ((S.1 47 ((100 * a0).toNatClampNeg)) - 1) (ex_sx S 41 0 0)).mono (fun r S1 e => ?_))
    obtain ⟨rfl, e2⟩ := e
    rw [e2]
    show ex_P _ _ 196 30 [.ref 41, .int a0, .int a1, .int a2] [.int (vf174 a1 0 ((S.1 47 ((100 * a0).toNatClampNeg)) - 1))] (ex_sx S 41 0 0) _
    refine ex_ifc pm_M196 (t := 62) (pc_q := 33) rfl rfl rfl (fun c5 => ?_) (fun c5 => ?_)
    · -- vf174 a1 0 ((S.1 47 ((100 * a0).toNatClampNeg)) - 1) = 0
      refine ex_op pm_M196 (pc_q := 63) (st_q := [.int (-1)]) rfl rfl rfl ?_
      exact ex_retI pm_M196 rfl (⟨_, rfl, v1 a0 a1 a2 S c3 c5⟩)
    · -- not
      refine ex_lo pm_M196 (pc_q := 34) (ls_q := [.ref 41, .int a0, .int a1, .int a2]) (st_q := [.int a2]) rfl rfl rfl ?_
      refine ex_op pm_M196 (pc_q := 35) (st_q := [.int 0, .int a2]) rfl rfl rfl ?_
      refine ex_op pm_M196 (pc_q := 36) (st_q := [.int 3, .int 0, .int a2]) rfl rfl rfl ?_
      refine ex_call pm_M196 (pc_q := 39) (ix := 112) (callee := 174) (np := 3) (kd := 2) (ra := [.int 3, .int 0, .int a2]) (rest := []) rfl rfl rfl rfl pm_M174 rfl rfl rfl rfl (fun d6 => (ef174 _ d6 a2 0 3 (ex_sx S 41 0 0)).mono (fun r S1 e => ?_))
      obtain ⟨rfl, e2⟩ := e
      rw [e2]
      show ex_P _ _ 196 39 [.ref 41, .int a0, .int a1, .int a2] [.int (vf174 a2 0 3)] (ex_sx S 41 0 0) _
      refine ex_ifc pm_M196 (t := 62) (pc_q := 42) rfl rfl rfl (fun c7 => ?_) (fun c7 => ?_)
      · -- vf174 a2 0 3 = 0
        refine ex_op pm_M196 (pc_q := 63) (st_q := [.int (-1)]) rfl rfl rfl ?_
        exact ex_retI pm_M196 rfl (⟨_, rfl, v2 a0 a1 a2 S c3 c5 c7⟩)
      · -- not
        refine ex_lo pm_M196 (pc_q := 43) (ls_q := [.ref 41, .int a0, .int a1, .int a2]) (st_q := [.ref 41]) rfl rfl rfl ?_
        refine ex_getK pm_M196 (pc_q := 46) (j := 30) (b := 47) rfl rfl rfl rfl rfl ?_
        refine ex_op pm_M196 (pc_q := 48) (st_q := [.int 100, .ref 47]) rfl rfl rfl ?_
        refine ex_lo pm_M196 (pc_q := 49) (ls_q := [.ref 41, .int a0, .int a1, .int a2]) (st_q := [.int a0, .int 100, .ref 47]) rfl rfl rfl ?_
        refine ex_op pm_M196 (pc_q := 50) (st_q := [.int (100 * a0), .ref 47]) rfl rfl rfl ?_
        refine ex_op pm_M196 (pc_q := 51) (st_q := [.int 2, .int (100 * a0), .ref 47]) rfl rfl rfl ?_
        refine ex_op pm_M196 (pc_q := 52) (st_q := [.int ((100 * a0) + 2), .ref 47]) rfl rfl rfl ?_
        refine ex_op pm_M196 (pc_q := 53) (st_q := [.int 4, .int ((100 * a0) + 2), .ref 47]) rfl rfl rfl ?_
        refine ex_lo pm_M196 (pc_q := 54) (ls_q := [.ref 41, .int a0, .int a1, .int a2]) (st_q := [.int a1, .int 4, .int ((100 * a0) + 2), .ref 47]) rfl rfl rfl ?_
        refine ex_op pm_M196 (pc_q := 55) (st_q := [.int (4 * a1), .int ((100 * a0) + 2), .ref 47]) rfl rfl rfl ?_
        refine ex_op pm_M196 (pc_q := 56) (st_q := [.int (((100 * a0) + 2) + (4 * a1)), .ref 47]) rfl rfl rfl ?_
        refine ex_lo pm_M196 (pc_q := 57) (ls_q := [.ref 41, .int a0, .int a1, .int a2]) (st_q := [.int a2, .int (((100 * a0) + 2) + (4 * a1)), .ref 47]) rfl rfl rfl ?_
        refine ex_op pm_M196 (pc_q := 58) (st_q := [.int ((((100 * a0) + 2) + (4 * a1)) + a2), .ref 47]) rfl rfl rfl ?_
        refine ex_iald' pm_M196 (pc_q := 59) (v := S.1 47 (((((100 * a0) + 2) + (4 * a1)) + a2).toNatClampNeg)) rfl rfl rfl ?_
        refine ex_br pm_M196 (pc_q := 63) (st_q := [.int (S.1 47 (((((100 * a0) + 2) + (4 * a1)) + a2).toNatClampNeg))]) rfl rfl ?_
        exact ex_retI pm_M196 rfl (⟨_, rfl, v3 a0 a1 a2 S c3 c5 c7⟩)
set_option maxRecDepth 100000 in
set_option maxHeartbeats 4000000 in
/-- SilentTableModel.reading -/
theorem ev197 {C : Int32 → Int32 → Int32 → ex_S → Int32 → ex_S → Prop} 
    (v0 : ∀ (a0 : Int32) (a1 : Int32) (a2 : Int32) (S : ex_S), vf174 a0 0 ((S.1 46 0) - 1) = 0 → C a0 a1 a2 S (-1) (ex_sx S 41 0 0)) 
    (v1 : ∀ (a0 : Int32) (a1 : Int32) (a2 : Int32) (S : ex_S), ¬ (vf174 a0 0 ((S.1 46 0) - 1) = 0) → vf174 a1 0 ((S.1 47 (((100 * a0) + 1).toNatClampNeg)) - 1) = 0 → C a0 a1 a2 S (-1) (ex_sx S 41 0 0)) 
    (v2 : ∀ (a0 : Int32) (a1 : Int32) (a2 : Int32) (S : ex_S), ¬ (vf174 a0 0 ((S.1 46 0) - 1) = 0) → ¬ (vf174 a1 0 ((S.1 47 (((100 * a0) + 1).toNatClampNeg)) - 1) = 0) → vf174 a2 0 2 = 0 → C a0 a1 a2 S (-1) (ex_sx S 41 0 0)) 
    (v3 : ∀ (a0 : Int32) (a1 : Int32) (a2 : Int32) (S : ex_S), ¬ (vf174 a0 0 ((S.1 46 0) - 1) = 0) → ¬ (vf174 a1 0 ((S.1 47 (((100 * a0) + 1).toNatClampNeg)) - 1) = 0) → ¬ (vf174 a2 0 2 = 0) → C a0 a1 a2 S (S.1 47 (((((100 * a0) + 42) + (3 * a1)) + a2).toNatClampNeg)) (ex_sx S 41 0 0)) : es197 C := by
  intro N d a0 a1 a2 S
  refine ex_lo pm_M197 (pc_q := 1) (ls_q := [.ref 41, .int a0, .int a1, .int a2]) (st_q := [.ref 41]) rfl rfl rfl ?_
  refine ex_op pm_M197 (pc_q := 2) (st_q := [.int 0, .ref 41]) rfl rfl rfl ?_
  refine ex_putI pm_M197 (pc_q := 5) rfl rfl rfl rfl rfl ?_
  refine ex_lo pm_M197 (pc_q := 6) (ls_q := [.ref 41, .int a0, .int a1, .int a2]) (st_q := [.ref 41]) rfl rfl rfl ?_
  refine ex_op pm_M197 (pc_q := 7) (st_q := [.int 0, .ref 41]) rfl rfl rfl ?_
  refine ex_lo pm_M197 (pc_q := 8) (ls_q := [.ref 41, .int a0, .int a1, .int a2]) (st_q := [.int a0, .int 0, .ref 41]) rfl rfl rfl ?_
  refine ex_call pm_M197 (pc_q := 11) (ix := 244) (callee := 177) (np := 2) (kd := 0) (ra := [.int a0, .int 0, .ref 41]) (rest := []) rfl rfl rfl rfl pm_M177 rfl rfl rfl rfl (fun d1 => ?_)
  refine ex_lo pm_M177 (pc_q := 1) (ls_q := [.ref 41, .int 0, .int a0]) (st_q := [.int a0]) rfl rfl rfl ?_
  refine ex_op pm_M177 (pc_q := 2) (st_q := [.int 0, .int a0]) rfl rfl rfl ?_
  refine ex_lo pm_M177 (pc_q := 3) (ls_q := [.ref 41, .int 0, .int a0]) (st_q := [.ref 41, .int 0, .int a0]) rfl rfl rfl ?_
  refine ex_getK pm_M177 (pc_q := 6) (j := 29) (b := 46) rfl rfl rfl rfl rfl ?_
  refine ex_lo pm_M177 (pc_q := 7) (ls_q := [.ref 41, .int 0, .int a0]) (st_q := [.int 0, .ref 46, .int 0, .int a0]) rfl rfl rfl ?_
  refine ex_iald' pm_M177 (pc_q := 8) (v := S.1 46 0) rfl rfl rfl ?_
  refine ex_op pm_M177 (pc_q := 9) (st_q := [.int 1, .int (S.1 46 0), .int 0, .int a0]) rfl rfl rfl ?_
  refine ex_op pm_M177 (pc_q := 10) (st_q := [.int ((S.1 46 0) - 1), .int 0, .int a0]) rfl rfl rfl ?_
  refine ex_call pm_M177 (pc_q := 13) (ix := 112) (callee := 174) (np := 3) (kd := 2) (ra := [.int ((S.1 46 0) - 1), .int 0, .int a0]) (rest := []) rfl rfl rfl rfl pm_M174 rfl rfl rfl rfl (fun d2 => (ef174 _ d2 a0 0 ((S.1 46 0) - 1) (ex_sx S 41 0 0)).mono (fun r S1 e => ?_))
  obtain ⟨rfl, e2⟩ := e
  rw [e2]
  show ex_P _ _ 177 13 [.ref 41, .int 0, .int a0] [.int (vf174 a0 0 ((S.1 46 0) - 1))] (ex_sx S 41 0 0) _
  refine ex_retI pm_M177 rfl ?_
  show ex_P _ _ 197 11 [.ref 41, .int a0, .int a1, .int a2] [.int (vf174 a0 0 ((S.1 46 0) - 1))] (ex_sx S 41 0 0) _
  refine ex_ifc pm_M197 (t := 65) (pc_q := 14) rfl rfl rfl (fun c3 => ?_) (fun c3 => ?_)
  · -- vf174 a0 0 ((S.1 46 0) - 1) = 0
    refine ex_op pm_M197 (pc_q := 66) (st_q := [.int (-1)]) rfl rfl rfl ?_
    exact ex_retI pm_M197 rfl (⟨_, rfl, v0 a0 a1 a2 S c3⟩)
  · -- not
    refine ex_lo pm_M197 (pc_q := 15) (ls_q := [.ref 41, .int a0, .int a1, .int a2]) (st_q := [.int a1]) rfl rfl rfl ?_
    refine ex_op pm_M197 (pc_q := 16) (st_q := [.int 0, .int a1]) rfl rfl rfl ?_
    refine ex_lo pm_M197 (pc_q := 17) (ls_q := [.ref 41, .int a0, .int a1, .int a2]) (st_q := [.ref 41, .int 0, .int a1]) rfl rfl rfl ?_
    refine ex_getK pm_M197 (pc_q := 20) (j := 30) (b := 47) rfl rfl rfl rfl rfl ?_
    refine ex_op pm_M197 (pc_q := 22) (st_q := [.int 100, .ref 47, .int 0, .int a1]) rfl rfl rfl ?_
    refine ex_lo pm_M197 (pc_q := 23) (ls_q := [.ref 41, .int a0, .int a1, .int a2]) (st_q := [.int a0, .int 100, .ref 47, .int 0, .int a1]) rfl rfl rfl ?_
    refine ex_op pm_M197 (pc_q := 24) (st_q := [.int (100 * a0), .ref 47, .int 0, .int a1]) rfl rfl rfl ?_
    refine ex_op pm_M197 (pc_q := 25) (st_q := [.int 1, .int (100 * a0), .ref 47, .int 0, .int a1]) rfl rfl rfl ?_
    refine ex_op pm_M197 (pc_q := 26) (st_q := [.int ((100 * a0) + 1), .ref 47, .int 0, .int a1]) rfl rfl rfl ?_
    refine ex_iald' pm_M197 (pc_q := 27) (v := S.1 47 (((100 * a0) + 1).toNatClampNeg)) rfl rfl rfl ?_
    refine ex_op pm_M197 (pc_q := 28) (st_q := [.int 1, .int (S.1 47 (((100 * a0) + 1).toNatClampNeg)), .int 0, .int a1]) rfl rfl rfl ?_
    refine ex_op pm_M197 (pc_q := 29) (st_q := [.int ((S.1 47 (((100 * a0) + 1).toNatClampNeg)) - 1), .int 0, .int a1]) rfl rfl rfl ?_
    refine ex_call pm_M197 (pc_q := 32) (ix := 112) (callee := 174) (np := 3) (kd := 2) (ra := [.int ((S.1 47 (((100 * a0) + 1).toNatClampNeg)) - 1), .int 0, .int a1]) (rest := []) rfl rfl rfl rfl pm_M174 rfl rfl rfl rfl (fun d4 => (ef174 _ d4 a1 0 ((S.1 47 (((100 * a0) + 1).toNatClampNeg)) - 1) (ex_sx S 41 0 0)).mono (fun r S1 e => ?_))
    obtain ⟨rfl, e2⟩ := e
    rw [e2]
    show ex_P _ _ 197 32 [.ref 41, .int a0, .int a1, .int a2] [.int (vf174 a1 0 ((S.1 47 (((100 * a0) + 1).toNatClampNeg)) - 1))] (ex_sx S 41 0 0) _
    refine ex_ifc pm_M197 (t := 65) (pc_q := 35) rfl rfl rfl (fun c5 => ?_) (fun c5 => ?_)
    · -- vf174 a1 0 ((S.1 47 (((100 * a0) + 1).toNatClampNeg)) - 1) = 0
      refine ex_op pm_M197 (pc_q := 66) (st_q := [.int (-1)]) rfl rfl rfl ?_
      exact ex_retI pm_M197 rfl (⟨_, rfl, v1 a0 a1 a2 S c3 c5⟩)
    · -- not
      refine ex_lo pm_M197 (pc_q := 36) (ls_q := [.ref 41, .int a0, .int a1, .int a2]) (st_q := [.int a2]) rfl rfl rfl ?_
      refine ex_op pm_M197 (pc_q := 37) (st_q := [.int 0, .int a2]) rfl rfl rfl ?_
      refine ex_op pm_M197 (pc_q := 38) (st_q := [.int 2, .int 0, .int a2]) rfl rfl rfl ?_
      refine ex_call pm_M197 (pc_q := 41) (ix := 112) (callee := 174) (np := 3) (kd := 2) (ra := [.int 2, .int 0, .int a2]) (rest := []) rfl rfl rfl rfl pm_M174 rfl rfl rfl rfl (fun d6 => (ef174 _ d6 a2 0 2 (ex_sx S 41 0 0)).mono (fun r S1 e => ?_))
      obtain ⟨rfl, e2⟩ := e
      rw [e2]
      show ex_P _ _ 197 41 [.ref 41, .int a0, .int a1, .int a2] [.int (vf174 a2 0 2)] (ex_sx S 41 0 0) _
      refine ex_ifc pm_M197 (t := 65) (pc_q := 44) rfl rfl rfl (fun c7 => ?_) (fun c7 => ?_)
      · -- vf174 a2 0 2 = 0
        refine ex_op pm_M197 (pc_q := 66) (st_q := [.int (-1)]) rfl rfl rfl ?_
        exact ex_retI pm_M197 rfl (⟨_, rfl, v2 a0 a1 a2 S c3 c5 c7⟩)
      · -- not
        refine ex_lo pm_M197 (pc_q := 45) (ls_q := [.ref 41, .int a0, .int a1, .int a2]) (st_q := [.ref 41]) rfl rfl rfl ?_
        refine ex_getK pm_M197 (pc_q := 48) (j := 30) (b := 47) rfl rfl rfl rfl rfl ?_
        refine ex_op pm_M197 (pc_q := 50) (st_q := [.int 100, .ref 47]) rfl rfl rfl ?_
        refine ex_lo pm_M197 (pc_q := 51) (ls_q := [.ref 41, .int a0, .int a1, .int a2]) (st_q := [.int a0, .int 100, .ref 47]) rfl rfl rfl ?_
        refine ex_op pm_M197 (pc_q := 52) (st_q := [.int (100 * a0), .ref 47]) rfl rfl rfl ?_
        refine ex_op pm_M197 (pc_q := 54) (st_q := [.int 42, .int (100 * a0), .ref 47]) rfl rfl rfl ?_
        refine ex_op pm_M197 (pc_q := 55) (st_q := [.int ((100 * a0) + 42), .ref 47]) rfl rfl rfl ?_
        refine ex_op pm_M197 (pc_q := 56) (st_q := [.int 3, .int ((100 * a0) + 42), .ref 47]) rfl rfl rfl ?_
        refine ex_lo pm_M197 (pc_q := 57) (ls_q := [.ref 41, .int a0, .int a1, .int a2]) (st_q := [.int a1, .int 3, .int ((100 * a0) + 42), .ref 47]) rfl rfl rfl ?_
        refine ex_op pm_M197 (pc_q := 58) (st_q := [.int (3 * a1), .int ((100 * a0) + 42), .ref 47]) rfl rfl rfl ?_
        refine ex_op pm_M197 (pc_q := 59) (st_q := [.int (((100 * a0) + 42) + (3 * a1)), .ref 47]) rfl rfl rfl ?_
        refine ex_lo pm_M197 (pc_q := 60) (ls_q := [.ref 41, .int a0, .int a1, .int a2]) (st_q := [.int a2, .int (((100 * a0) + 42) + (3 * a1)), .ref 47]) rfl rfl rfl ?_
        refine ex_op pm_M197 (pc_q := 61) (st_q := [.int ((((100 * a0) + 42) + (3 * a1)) + a2), .ref 47]) rfl rfl rfl ?_
        refine ex_iald' pm_M197 (pc_q := 62) (v := S.1 47 (((((100 * a0) + 42) + (3 * a1)) + a2).toNatClampNeg)) rfl rfl rfl ?_
        refine ex_br pm_M197 (pc_q := 66) (st_q := [.int (S.1 47 (((((100 * a0) + 42) + (3 * a1)) + a2).toNatClampNeg))]) rfl rfl ?_
        exact ex_retI pm_M197 rfl (⟨_, rfl, v3 a0 a1 a2 S c3 c5 c7⟩)
set_option maxRecDepth 100000 in
set_option maxHeartbeats 4000000 in
/-- SilentTableModel.row -/
theorem ev198 {C : Int32 → Int32 → ex_S → Int32 → ex_S → Prop} 
    (v0 : ∀ (a0 : Int32) (a1 : Int32) (S : ex_S), ¬ vf174 a0 0 ((S.1 46 1) - 1) = 0 → ¬ a1 = (-1) → vf174 a1 0 ((S.1 48 ((13 * a0).toNatClampNeg)) - 1) = 0 → C a0 a1 S (-2) (ex_sx S 41 0 0)) 
    (v1 : ∀ (a0 : Int32) (a1 : Int32) (S : ex_S), ¬ vf174 a0 0 ((S.1 46 1) - 1) = 0 → ¬ a1 = (-1) → ¬ (vf174 a1 0 ((S.1 48 ((13 * a0).toNatClampNeg)) - 1) = 0) → C a0 a1 S (S.1 48 ((((13 * a0) + 1) + a1).toNatClampNeg)) (ex_sx S 41 0 0)) 
    (v2 : ∀ (a0 : Int32) (a1 : Int32) (S : ex_S), ¬ vf174 a0 0 ((S.1 46 1) - 1) = 0 → ¬ (¬ a1 = (-1)) → C a0 a1 S (S.1 48 ((13 * a0).toNatClampNeg)) (ex_sx S 41 0 0)) 
    (v3 : ∀ (a0 : Int32) (a1 : Int32) (S : ex_S), ¬ (¬ vf174 a0 0 ((S.1 46 1) - 1) = 0) → C a0 a1 S (-2) (ex_sx S 41 0 0)) : es198 C := by
  intro N d a0 a1 S
  refine ex_lo pm_M198 (pc_q := 1) (ls_q := [.ref 41, .int a0, .int a1]) (st_q := [.ref 41]) rfl rfl rfl ?_
  refine ex_op pm_M198 (pc_q := 2) (st_q := [.int 0, .ref 41]) rfl rfl rfl ?_
  refine ex_putI pm_M198 (pc_q := 5) rfl rfl rfl rfl rfl ?_
  refine ex_lo pm_M198 (pc_q := 6) (ls_q := [.ref 41, .int a0, .int a1]) (st_q := [.ref 41]) rfl rfl rfl ?_
  refine ex_op pm_M198 (pc_q := 7) (st_q := [.int 1, .ref 41]) rfl rfl rfl ?_
  refine ex_lo pm_M198 (pc_q := 8) (ls_q := [.ref 41, .int a0, .int a1]) (st_q := [.int a0, .int 1, .ref 41]) rfl rfl rfl ?_
  refine ex_call pm_M198 (pc_q := 11) (ix := 244) (callee := 177) (np := 2) (kd := 0) (ra := [.int a0, .int 1, .ref 41]) (rest := []) rfl rfl rfl rfl pm_M177 rfl rfl rfl rfl (fun d1 => ?_)
  refine ex_lo pm_M177 (pc_q := 1) (ls_q := [.ref 41, .int 1, .int a0]) (st_q := [.int a0]) rfl rfl rfl ?_
  refine ex_op pm_M177 (pc_q := 2) (st_q := [.int 0, .int a0]) rfl rfl rfl ?_
  refine ex_lo pm_M177 (pc_q := 3) (ls_q := [.ref 41, .int 1, .int a0]) (st_q := [.ref 41, .int 0, .int a0]) rfl rfl rfl ?_
  refine ex_getK pm_M177 (pc_q := 6) (j := 29) (b := 46) rfl rfl rfl rfl rfl ?_
  refine ex_lo pm_M177 (pc_q := 7) (ls_q := [.ref 41, .int 1, .int a0]) (st_q := [.int 1, .ref 46, .int 0, .int a0]) rfl rfl rfl ?_
  refine ex_iald' pm_M177 (pc_q := 8) (v := S.1 46 1) rfl rfl rfl ?_
  refine ex_op pm_M177 (pc_q := 9) (st_q := [.int 1, .int (S.1 46 1), .int 0, .int a0]) rfl rfl rfl ?_
  refine ex_op pm_M177 (pc_q := 10) (st_q := [.int ((S.1 46 1) - 1), .int 0, .int a0]) rfl rfl rfl ?_
  refine ex_call pm_M177 (pc_q := 13) (ix := 112) (callee := 174) (np := 3) (kd := 2) (ra := [.int ((S.1 46 1) - 1), .int 0, .int a0]) (rest := []) rfl rfl rfl rfl pm_M174 rfl rfl rfl rfl (fun d2 => (ef174 _ d2 a0 0 ((S.1 46 1) - 1) (ex_sx S 41 0 0)).mono (fun r S1 e => ?_))
  obtain ⟨rfl, e2⟩ := e
  rw [e2]
  show ex_P _ _ 177 13 [.ref 41, .int 1, .int a0] [.int (vf174 a0 0 ((S.1 46 1) - 1))] (ex_sx S 41 0 0) _
  refine ex_retI pm_M177 rfl ?_
  show ex_P _ _ 198 11 [.ref 41, .int a0, .int a1] [.int (vf174 a0 0 ((S.1 46 1) - 1))] (ex_sx S 41 0 0) _
  refine ex_ifc pm_M198 (t := 17) (pc_q := 14) rfl rfl rfl (fun c3 => ?_) (fun c3 => ?_)
  · -- ¬ vf174 a0 0 ((S.1 46 1) - 1) = 0
    refine ex_lo pm_M198 (pc_q := 18) (ls_q := [.ref 41, .int a0, .int a1]) (st_q := [.int a1]) rfl rfl rfl ?_
    refine ex_op pm_M198 (pc_q := 19) (st_q := [.int (-1), .int a1]) rfl rfl rfl ?_
    refine ex_icmp pm_M198 (t := 34) (pc_q := 22) rfl rfl rfl (fun c4 => ?_) (fun c4 => ?_)
    · -- ¬ a1 = (-1)
      refine ex_lo pm_M198 (pc_q := 35) (ls_q := [.ref 41, .int a0, .int a1]) (st_q := [.int a1]) rfl rfl rfl ?_
      refine ex_op pm_M198 (pc_q := 36) (st_q := [.int 0, .int a1]) rfl rfl rfl ?_
      refine ex_lo pm_M198 (pc_q := 37) (ls_q := [.ref 41, .int a0, .int a1]) (st_q := [.ref 41, .int 0, .int a1]) rfl rfl rfl ?_
      refine ex_getK pm_M198 (pc_q := 40) (j := 31) (b := 48) rfl rfl rfl rfl rfl ?_
      refine ex_op pm_M198 (pc_q := 42) (st_q := [.int 13, .ref 48, .int 0, .int a1]) rfl rfl rfl ?_
      refine ex_lo pm_M198 (pc_q := 43) (ls_q := [.ref 41, .int a0, .int a1]) (st_q := [.int a0, .int 13, .ref 48, .int 0, .int a1]) rfl rfl rfl ?_
      refine ex_op pm_M198 (pc_q := 44) (st_q := [.int (13 * a0), .ref 48, .int 0, .int a1]) rfl rfl rfl ?_
      refine ex_iald' pm_M198 (pc_q := 45) (v := S.1 48 ((13 * a0).toNatClampNeg)) rfl rfl rfl ?_
      refine ex_op pm_M198 (pc_q := 46) (st_q := [.int 1, .int (S.1 48 ((13 * a0).toNatClampNeg)), .int 0, .int a1]) rfl rfl rfl ?_
      refine ex_op pm_M198 (pc_q := 47) (st_q := [.int ((S.1 48 ((13 * a0).toNatClampNeg)) - 1), .int 0, .int a1]) rfl rfl rfl ?_
      refine ex_call pm_M198 (pc_q := 50) (ix := 112) (callee := 174) (np := 3) (kd := 2) (ra := [.int ((S.1 48 ((13 * a0).toNatClampNeg)) - 1), .int 0, .int a1]) (rest := []) rfl rfl rfl rfl pm_M174 rfl rfl rfl rfl (fun d5 => (ef174 _ d5 a1 0 ((S.1 48 ((13 * a0).toNatClampNeg)) - 1) (ex_sx S 41 0 0)).mono (fun r S1 e => ?_))
      obtain ⟨rfl, e2⟩ := e
      rw [e2]
      show ex_P _ _ 198 50 [.ref 41, .int a0, .int a1] [.int (vf174 a1 0 ((S.1 48 ((13 * a0).toNatClampNeg)) - 1))] (ex_sx S 41 0 0) _
      refine ex_ifc pm_M198 (t := 69) (pc_q := 53) rfl rfl rfl (fun c6 => ?_) (fun c6 => ?_)
      · -- vf174 a1 0 ((S.1 48 ((13 * a0).toNatClampNeg)) - 1) = 0
        refine ex_op pm_M198 (pc_q := 71) (st_q := [.int (-2)]) rfl rfl rfl ?_
        exact ex_retI pm_M198 rfl (⟨_, rfl, v0 a0 a1 S c3 c4 c6⟩)
      · -- not
        refine ex_lo pm_M198 (pc_q := 54) (ls_q := [.ref 41, .int a0, .int a1]) (st_q := [.ref 41]) rfl rfl rfl ?_
        refine ex_getK pm_M198 (pc_q := 57) (j := 31) (b := 48) rfl rfl rfl rfl rfl ?_
        refine ex_op pm_M198 (pc_q := 59) (st_q := [.int 13, .ref 48]) rfl rfl rfl ?_
        refine ex_lo pm_M198 (pc_q := 60) (ls_q := [.ref 41, .int a0, .int a1]) (st_q := [.int a0, .int 13, .ref 48]) rfl rfl rfl ?_
        refine ex_op pm_M198 (pc_q := 61) (st_q := [.int (13 * a0), .ref 48]) rfl rfl rfl ?_
        refine ex_op pm_M198 (pc_q := 62) (st_q := [.int 1, .int (13 * a0), .ref 48]) rfl rfl rfl ?_
        refine ex_op pm_M198 (pc_q := 63) (st_q := [.int ((13 * a0) + 1), .ref 48]) rfl rfl rfl ?_
        refine ex_lo pm_M198 (pc_q := 64) (ls_q := [.ref 41, .int a0, .int a1]) (st_q := [.int a1, .int ((13 * a0) + 1), .ref 48]) rfl rfl rfl ?_
        refine ex_op pm_M198 (pc_q := 65) (st_q := [.int (((13 * a0) + 1) + a1), .ref 48]) rfl rfl rfl ?_
        refine ex_iald' pm_M198 (pc_q := 66) (v := S.1 48 ((((13 * a0) + 1) + a1).toNatClampNeg)) rfl rfl rfl ?_
        refine ex_br pm_M198 (pc_q := 71) (st_q := [.int (S.1 48 ((((13 * a0) + 1) + a1).toNatClampNeg))]) rfl rfl ?_
        exact ex_retI pm_M198 rfl (⟨_, rfl, v1 a0 a1 S c3 c4 c6⟩)
    · -- not
      refine ex_lo pm_M198 (pc_q := 23) (ls_q := [.ref 41, .int a0, .int a1]) (st_q := [.ref 41]) rfl rfl rfl ?_
      refine ex_getK pm_M198 (pc_q := 26) (j := 31) (b := 48) rfl rfl rfl rfl rfl ?_
      refine ex_op pm_M198 (pc_q := 28) (st_q := [.int 13, .ref 48]) rfl rfl rfl ?_
      refine ex_lo pm_M198 (pc_q := 29) (ls_q := [.ref 41, .int a0, .int a1]) (st_q := [.int a0, .int 13, .ref 48]) rfl rfl rfl ?_
      refine ex_op pm_M198 (pc_q := 30) (st_q := [.int (13 * a0), .ref 48]) rfl rfl rfl ?_
      refine ex_iald' pm_M198 (pc_q := 31) (v := S.1 48 ((13 * a0).toNatClampNeg)) rfl rfl rfl ?_
      refine ex_br pm_M198 (pc_q := 71) (st_q := [.int (S.1 48 ((13 * a0).toNatClampNeg))]) rfl rfl ?_
      exact ex_retI pm_M198 rfl (⟨_, rfl, v2 a0 a1 S c3 c4⟩)
  · -- not
    refine ex_op pm_M198 (pc_q := 16) (st_q := [.int (-2)]) rfl rfl rfl ?_
    exact ex_retI pm_M198 rfl (⟨_, rfl, v3 a0 a1 S c3⟩)
set_option maxRecDepth 100000 in
set_option maxHeartbeats 4000000 in
/-- SilentTableModel.law -/
theorem ev271 {C : Int32 → Int32 → Int32 → ex_S → Int32 → ex_S → Prop} 
    (v0 : ∀ (a0 : Int32) (a1 : Int32) (a2 : Int32) (S : ex_S), ¬ vf174 a0 0 ((S.1 46 3) - 1) = 0 → ¬ a1 = (-1) → vf174 a1 0 ((S.1 50 ((25 * a0).toNatClampNeg)) - 1) = 0 → C a0 a1 a2 S (-2) (ex_sx (ex_sx S 41 0 0) 41 49 a0)) 
    (v1 : ∀ (a0 : Int32) (a1 : Int32) (a2 : Int32) (S : ex_S), ¬ vf174 a0 0 ((S.1 46 3) - 1) = 0 → ¬ a1 = (-1) → ¬ (vf174 a1 0 ((S.1 50 ((25 * a0).toNatClampNeg)) - 1) = 0) → vf174 a2 0 2 = 0 → C a0 a1 a2 S (-2) (ex_sx (ex_sx S 41 0 0) 41 49 a0)) 
    (v2 : ∀ (a0 : Int32) (a1 : Int32) (a2 : Int32) (S : ex_S), ¬ vf174 a0 0 ((S.1 46 3) - 1) = 0 → ¬ a1 = (-1) → ¬ (vf174 a1 0 ((S.1 50 ((25 * a0).toNatClampNeg)) - 1) = 0) → ¬ (vf174 a2 0 2 = 0) → C a0 a1 a2 S (S.1 50 (((((25 * a0) + 1) + (3 * a1)) + a2).toNatClampNeg)) (ex_sx (ex_sx S 41 0 0) 41 49 a0)) 
    (v3 : ∀ (a0 : Int32) (a1 : Int32) (a2 : Int32) (S : ex_S), ¬ vf174 a0 0 ((S.1 46 3) - 1) = 0 → ¬ (¬ a1 = (-1)) → ¬ a2 = 0 → C a0 a1 a2 S (-2) (ex_sx (ex_sx S 41 0 0) 41 49 a0)) 
    (v4 : ∀ (a0 : Int32) (a1 : Int32) (a2 : Int32) (S : ex_S), ¬ vf174 a0 0 ((S.1 46 3) - 1) = 0 → ¬ (¬ a1 = (-1)) → ¬ (¬ a2 = 0) → C a0 a1 a2 S (S.1 50 ((25 * a0).toNatClampNeg)) (ex_sx (ex_sx S 41 0 0) 41 49 a0)) 
    (v5 : ∀ (a0 : Int32) (a1 : Int32) (a2 : Int32) (S : ex_S), ¬ (¬ vf174 a0 0 ((S.1 46 3) - 1) = 0) → C a0 a1 a2 S (-2) (ex_sx S 41 0 0)) : es271 C := by
  intro N d a0 a1 a2 S
  refine ex_lo pm_M271 (pc_q := 1) (ls_q := [.ref 41, .int a0, .int a1, .int a2]) (st_q := [.ref 41]) rfl rfl rfl ?_
  refine ex_op pm_M271 (pc_q := 2) (st_q := [.int 0, .ref 41]) rfl rfl rfl ?_
  refine ex_putI pm_M271 (pc_q := 5) rfl rfl rfl rfl rfl ?_
  refine ex_lo pm_M271 (pc_q := 6) (ls_q := [.ref 41, .int a0, .int a1, .int a2]) (st_q := [.ref 41]) rfl rfl rfl ?_
  refine ex_op pm_M271 (pc_q := 7) (st_q := [.int 3, .ref 41]) rfl rfl rfl ?_
  refine ex_lo pm_M271 (pc_q := 8) (ls_q := [.ref 41, .int a0, .int a1, .int a2]) (st_q := [.int a0, .int 3, .ref 41]) rfl rfl rfl ?_
  refine ex_call pm_M271 (pc_q := 11) (ix := 244) (callee := 177) (np := 2) (kd := 0) (ra := [.int a0, .int 3, .ref 41]) (rest := []) rfl rfl rfl rfl pm_M177 rfl rfl rfl rfl (fun d1 => ?_)
  refine ex_lo pm_M177 (pc_q := 1) (ls_q := [.ref 41, .int 3, .int a0]) (st_q := [.int a0]) rfl rfl rfl ?_
  refine ex_op pm_M177 (pc_q := 2) (st_q := [.int 0, .int a0]) rfl rfl rfl ?_
  refine ex_lo pm_M177 (pc_q := 3) (ls_q := [.ref 41, .int 3, .int a0]) (st_q := [.ref 41, .int 0, .int a0]) rfl rfl rfl ?_
  refine ex_getK pm_M177 (pc_q := 6) (j := 29) (b := 46) rfl rfl rfl rfl rfl ?_
  refine ex_lo pm_M177 (pc_q := 7) (ls_q := [.ref 41, .int 3, .int a0]) (st_q := [.int 3, .ref 46, .int 0, .int a0]) rfl rfl rfl ?_
  refine ex_iald' pm_M177 (pc_q := 8) (v := S.1 46 3) rfl rfl rfl ?_
  refine ex_op pm_M177 (pc_q := 9) (st_q := [.int 1, .int (S.1 46 3), .int 0, .int a0]) rfl rfl rfl ?_
  refine ex_op pm_M177 (pc_q := 10) (st_q := [.int ((S.1 46 3) - 1), .int 0, .int a0]) rfl rfl rfl ?_
  refine ex_call pm_M177 (pc_q := 13) (ix := 112) (callee := 174) (np := 3) (kd := 2) (ra := [.int ((S.1 46 3) - 1), .int 0, .int a0]) (rest := []) rfl rfl rfl rfl pm_M174 rfl rfl rfl rfl (fun d2 => (ef174 _ d2 a0 0 ((S.1 46 3) - 1) (ex_sx S 41 0 0)).mono (fun r S1 e => ?_))
  obtain ⟨rfl, e2⟩ := e
  rw [e2]
  show ex_P _ _ 177 13 [.ref 41, .int 3, .int a0] [.int (vf174 a0 0 ((S.1 46 3) - 1))] (ex_sx S 41 0 0) _
  refine ex_retI pm_M177 rfl ?_
  show ex_P _ _ 271 11 [.ref 41, .int a0, .int a1, .int a2] [.int (vf174 a0 0 ((S.1 46 3) - 1))] (ex_sx S 41 0 0) _
  refine ex_ifc pm_M271 (t := 17) (pc_q := 14) rfl rfl rfl (fun c3 => ?_) (fun c3 => ?_)
  · -- ¬ vf174 a0 0 ((S.1 46 3) - 1) = 0
    refine ex_lo pm_M271 (pc_q := 18) (ls_q := [.ref 41, .int a0, .int a1, .int a2]) (st_q := [.ref 41]) rfl rfl rfl ?_
    refine ex_lo pm_M271 (pc_q := 19) (ls_q := [.ref 41, .int a0, .int a1, .int a2]) (st_q := [.int a0, .ref 41]) rfl rfl rfl ?_
    refine ex_putI pm_M271 (pc_q := 22) rfl rfl rfl rfl rfl ?_
    refine ex_lo pm_M271 (pc_q := 23) (ls_q := [.ref 41, .int a0, .int a1, .int a2]) (st_q := [.int a1]) rfl rfl rfl ?_
    refine ex_op pm_M271 (pc_q := 24) (st_q := [.int (-1), .int a1]) rfl rfl rfl ?_
    refine ex_icmp pm_M271 (t := 41) (pc_q := 27) rfl rfl rfl (fun c4 => ?_) (fun c4 => ?_)
    · -- ¬ a1 = (-1)
      refine ex_lo pm_M271 (pc_q := 42) (ls_q := [.ref 41, .int a0, .int a1, .int a2]) (st_q := [.int a1]) rfl rfl rfl ?_
      refine ex_op pm_M271 (pc_q := 43) (st_q := [.int 0, .int a1]) rfl rfl rfl ?_
      refine ex_lo pm_M271 (pc_q := 44) (ls_q := [.ref 41, .int a0, .int a1, .int a2]) (st_q := [.ref 41, .int 0, .int a1]) rfl rfl rfl ?_
      refine ex_call pm_M271 (pc_q := 47) (ix := 460) (callee := 272) (np := 0) (kd := 0) (ra := [.ref 41]) (rest := [.int 0, .int a1]) rfl rfl rfl rfl pm_M272 rfl rfl rfl rfl (fun d5 => ?_)
      refine ex_lo pm_M272 (pc_q := 1) (ls_q := [.ref 41]) (st_q := [.ref 41]) rfl rfl rfl ?_
      refine ex_getK pm_M272 (pc_q := 4) (j := 33) (b := 50) rfl rfl rfl rfl rfl ?_
      refine ex_op pm_M272 (pc_q := 6) (st_q := [.int 25, .ref 50]) rfl rfl rfl ?_
      refine ex_lo pm_M272 (pc_q := 7) (ls_q := [.ref 41]) (st_q := [.ref 41, .int 25, .ref 50]) rfl rfl rfl ?_
      refine ex_getI' pm_M272 (pc_q := 10) (v := a0) rfl rfl rfl rfl rfl rfl ?_
      refine ex_op pm_M272 (pc_q := 11) (st_q := [.int (25 * a0), .ref 50]) rfl rfl rfl ?_
      refine ex_iald' pm_M272 (pc_q := 12) (v := S.1 50 ((25 * a0).toNatClampNeg)) rfl rfl rfl ?_
      refine ex_retI pm_M272 rfl ?_
      show ex_P _ _ 271 47 [.ref 41, .int a0, .int a1, .int a2] [.int (S.1 50 ((25 * a0).toNatClampNeg)), .int 0, .int a1] (ex_sx (ex_sx S 41 0 0) 41 49 a0) _
      refine ex_op pm_M271 (pc_q := 48) (st_q := [.int 1, .int (S.1 50 ((25 * a0).toNatClampNeg)), .int 0, .int a1]) rfl rfl rfl ?_
      refine ex_op pm_M271 (pc_q := 49) (st_q := [.int ((S.1 50 ((25 * a0).toNatClampNeg)) - 1), .int 0, .int a1]) rfl rfl rfl ?_
      refine ex_call pm_M271 (pc_q := 52) (ix := 112) (callee := 174) (np := 3) (kd := 2) (ra := [.int ((S.1 50 ((25 * a0).toNatClampNeg)) - 1), .int 0, .int a1]) (rest := []) rfl rfl rfl rfl pm_M174 rfl rfl rfl rfl (fun d6 => (ef174 _ d6 a1 0 ((S.1 50 ((25 * a0).toNatClampNeg)) - 1) (ex_sx (ex_sx S 41 0 0) 41 49 a0)).mono (fun r S1 e => ?_))
      obtain ⟨rfl, e2⟩ := e
      rw [e2]
      show ex_P _ _ 271 52 [.ref 41, .int a0, .int a1, .int a2] [.int (vf174 a1 0 ((S.1 50 ((25 * a0).toNatClampNeg)) - 1))] (ex_sx (ex_sx S 41 0 0) 41 49 a0) _
      refine ex_ifc pm_M271 (t := 73) (pc_q := 55) rfl rfl rfl (fun c7 => ?_) (fun c7 => ?_)
      · -- vf174 a1 0 ((S.1 50 ((25 * a0).toNatClampNeg)) - 1) = 0
        refine ex_op pm_M271 (pc_q := 75) (st_q := [.int (-2)]) rfl rfl rfl ?_
        exact ex_retI pm_M271 rfl (⟨_, rfl, v0 a0 a1 a2 S c3 c4 c7⟩)
      · -- not
        refine ex_lo pm_M271 (pc_q := 56) (ls_q := [.ref 41, .int a0, .int a1, .int a2]) (st_q := [.int a2]) rfl rfl rfl ?_
        refine ex_op pm_M271 (pc_q := 57) (st_q := [.int 0, .int a2]) rfl rfl rfl ?_
        refine ex_op pm_M271 (pc_q := 58) (st_q := [.int 2, .int 0, .int a2]) rfl rfl rfl ?_
        refine ex_call pm_M271 (pc_q := 61) (ix := 112) (callee := 174) (np := 3) (kd := 2) (ra := [.int 2, .int 0, .int a2]) (rest := []) rfl rfl rfl rfl pm_M174 rfl rfl rfl rfl (fun d8 => (ef174 _ d8 a2 0 2 (ex_sx (ex_sx S 41 0 0) 41 49 a0)).mono (fun r S1 e => ?_))
        obtain ⟨rfl, e2⟩ := e
        rw [e2]
        show ex_P _ _ 271 61 [.ref 41, .int a0, .int a1, .int a2] [.int (vf174 a2 0 2)] (ex_sx (ex_sx S 41 0 0) 41 49 a0) _
        refine ex_ifc pm_M271 (t := 73) (pc_q := 64) rfl rfl rfl (fun c9 => ?_) (fun c9 => ?_)
        · -- vf174 a2 0 2 = 0
          refine ex_op pm_M271 (pc_q := 75) (st_q := [.int (-2)]) rfl rfl rfl ?_
          exact ex_retI pm_M271 rfl (⟨_, rfl, v1 a0 a1 a2 S c3 c4 c7 c9⟩)
        · -- not
          refine ex_lo pm_M271 (pc_q := 65) (ls_q := [.ref 41, .int a0, .int a1, .int a2]) (st_q := [.ref 41]) rfl rfl rfl ?_
          refine ex_lo pm_M271 (pc_q := 66) (ls_q := [.ref 41, .int a0, .int a1, .int a2]) (st_q := [.int a1, .ref 41]) rfl rfl rfl ?_
          refine ex_lo pm_M271 (pc_q := 67) (ls_q := [.ref 41, .int a0, .int a1, .int a2]) (st_q := [.int a2, .int a1, .ref 41]) rfl rfl rfl ?_
          refine ex_call pm_M271 (pc_q := 70) (ix := 463) (callee := 273) (np := 2) (kd := 0) (ra := [.int a2, .int a1, .ref 41]) (rest := []) rfl rfl rfl rfl pm_M273 rfl rfl rfl rfl (fun d10 => ?_)
          refine ex_lo pm_M273 (pc_q := 1) (ls_q := [.ref 41, .int a1, .int a2]) (st_q := [.ref 41]) rfl rfl rfl ?_
          refine ex_getK pm_M273 (pc_q := 4) (j := 33) (b := 50) rfl rfl rfl rfl rfl ?_
          refine ex_op pm_M273 (pc_q := 6) (st_q := [.int 25, .ref 50]) rfl rfl rfl ?_
          refine ex_lo pm_M273 (pc_q := 7) (ls_q := [.ref 41, .int a1, .int a2]) (st_q := [.ref 41, .int 25, .ref 50]) rfl rfl rfl ?_
          refine ex_getI' pm_M273 (pc_q := 10) (v := a0) rfl rfl rfl rfl rfl rfl ?_
          refine ex_op pm_M273 (pc_q := 11) (st_q := [.int (25 * a0), .ref 50]) rfl rfl rfl ?_
          refine ex_op pm_M273 (pc_q := 12) (st_q := [.int 1, .int (25 * a0), .ref 50]) rfl rfl rfl ?_
          refine ex_op pm_M273 (pc_q := 13) (st_q := [.int ((25 * a0) + 1), .ref 50]) rfl rfl rfl ?_
          refine ex_op pm_M273 (pc_q := 14) (st_q := [.int 3, .int ((25 * a0) + 1), .ref 50]) rfl rfl rfl ?_
          refine ex_lo pm_M273 (pc_q := 15) (ls_q := [.ref 41, .int a1, .int a2]) (st_q := [.int a1, .int 3, .int ((25 * a0) + 1), .ref 50]) rfl rfl rfl ?_
          refine ex_op pm_M273 (pc_q := 16) (st_q := [.int (3 * a1), .int ((25 * a0) + 1), .ref 50]) rfl rfl rfl ?_
          refine ex_op pm_M273 (pc_q := 17) (st_q := [.int (((25 * a0) + 1) + (3 * a1)), .ref 50]) rfl rfl rfl ?_
          refine ex_lo pm_M273 (pc_q := 18) (ls_q := [.ref 41, .int a1, .int a2]) (st_q := [.int a2, .int (((25 * a0) + 1) + (3 * a1)), .ref 50]) rfl rfl rfl ?_
          refine ex_op pm_M273 (pc_q := 19) (st_q := [.int ((((25 * a0) + 1) + (3 * a1)) + a2), .ref 50]) rfl rfl rfl ?_
          refine ex_iald' pm_M273 (pc_q := 20) (v := S.1 50 (((((25 * a0) + 1) + (3 * a1)) + a2).toNatClampNeg)) rfl rfl rfl ?_
          refine ex_retI pm_M273 rfl ?_
          show ex_P _ _ 271 70 [.ref 41, .int a0, .int a1, .int a2] [.int (S.1 50 (((((25 * a0) + 1) + (3 * a1)) + a2).toNatClampNeg))] (ex_sx (ex_sx S 41 0 0) 41 49 a0) _
          refine ex_br pm_M271 (pc_q := 75) (st_q := [.int (S.1 50 (((((25 * a0) + 1) + (3 * a1)) + a2).toNatClampNeg))]) rfl rfl ?_
          exact ex_retI pm_M271 rfl (⟨_, rfl, v2 a0 a1 a2 S c3 c4 c7 c9⟩)
    · -- not
      refine ex_lo pm_M271 (pc_q := 28) (ls_q := [.ref 41, .int a0, .int a1, .int a2]) (st_q := [.int a2]) rfl rfl rfl ?_
      refine ex_ifc pm_M271 (t := 38) (pc_q := 31) rfl rfl rfl (fun c11 => ?_) (fun c11 => ?_)
      · -- ¬ a2 = 0
        refine ex_op pm_M271 (pc_q := 40) (st_q := [.int (-2)]) rfl rfl rfl ?_
        exact ex_retI pm_M271 rfl (⟨_, rfl, v3 a0 a1 a2 S c3 c4 c11⟩)
      · -- not
        refine ex_lo pm_M271 (pc_q := 32) (ls_q := [.ref 41, .int a0, .int a1, .int a2]) (st_q := [.ref 41]) rfl rfl rfl ?_
        refine ex_call pm_M271 (pc_q := 35) (ix := 460) (callee := 272) (np := 0) (kd := 0) (ra := [.ref 41]) (rest := []) rfl rfl rfl rfl pm_M272 rfl rfl rfl rfl (fun d12 => ?_)
        refine ex_lo pm_M272 (pc_q := 1) (ls_q := [.ref 41]) (st_q := [.ref 41]) rfl rfl rfl ?_
        refine ex_getK pm_M272 (pc_q := 4) (j := 33) (b := 50) rfl rfl rfl rfl rfl ?_
        refine ex_op pm_M272 (pc_q := 6) (st_q := [.int 25, .ref 50]) rfl rfl rfl ?_
        refine ex_lo pm_M272 (pc_q := 7) (ls_q := [.ref 41]) (st_q := [.ref 41, .int 25, .ref 50]) rfl rfl rfl ?_
        refine ex_getI' pm_M272 (pc_q := 10) (v := a0) rfl rfl rfl rfl rfl rfl ?_
        refine ex_op pm_M272 (pc_q := 11) (st_q := [.int (25 * a0), .ref 50]) rfl rfl rfl ?_
        refine ex_iald' pm_M272 (pc_q := 12) (v := S.1 50 ((25 * a0).toNatClampNeg)) rfl rfl rfl ?_
        refine ex_retI pm_M272 rfl ?_
        show ex_P _ _ 271 35 [.ref 41, .int a0, .int a1, .int a2] [.int (S.1 50 ((25 * a0).toNatClampNeg))] (ex_sx (ex_sx S 41 0 0) 41 49 a0) _
        refine ex_br pm_M271 (pc_q := 40) (st_q := [.int (S.1 50 ((25 * a0).toNatClampNeg))]) rfl rfl ?_
        exact ex_retI pm_M271 rfl (⟨_, rfl, v4 a0 a1 a2 S c3 c4 c11⟩)
  · -- not
    refine ex_op pm_M271 (pc_q := 16) (st_q := [.int (-2)]) rfl rfl rfl ?_
    exact ex_retI pm_M271 rfl (⟨_, rfl, v5 a0 a1 a2 S c3⟩)
set_option maxRecDepth 100000 in
set_option maxHeartbeats 4000000 in
/-- SilentTableModel.manyOf -/
theorem ev222 {C : Int64 → ex_S → Int32 → ex_S → Prop} {I4 : Int64 → ex_S → Int32 → Int32 → ex_S → Prop} 
    (v0 : ∀ (a0 : Int64) (S : ex_S), I4 a0 S 0 0 S) 
    (v1 : ∀ (a0 : Int64) (S : ex_S) (x2 : Int32) (x3 : Int32) (T : ex_S), I4 a0 S x2 x3 T → 50 ≤ x3 → C a0 S x2 T) 
    (v2 : ∀ (a0 : Int64) (S : ex_S) (x2 : Int32) (x3 : Int32) (T : ex_S), I4 a0 S x2 x3 T → ¬ (50 ≤ x3) → ¬ lg_cmp ((a0 >>> (x3.toInt64 &&& 63)) &&& 1) 1 = 0 → I4 a0 S (x2 + 0) (x3 + 1) T) 
    (v3 : ∀ (a0 : Int64) (S : ex_S) (x2 : Int32) (x3 : Int32) (T : ex_S), I4 a0 S x2 x3 T → ¬ (50 ≤ x3) → ¬ (¬ lg_cmp ((a0 >>> (x3.toInt64 &&& 63)) &&& 1) 1 = 0) → I4 a0 S (x2 + 1) (x3 + 1) T) : es222 C := by
  intro N d a0 S
  have LL : ∀ N : Nat, (∀ (x2 : Int32) (x3 : Int32) (T : ex_S), I4 a0 S x2 x3 T → ex_P N d 222 4 [.long a0, pm_no, .int x2, .int x3] [] T (fun r S_q => ∃ v, r = some (.int v) ∧ C a0 S v S_q)) := by
    intro N
    induction N with
    | zero => exact fun _ _ _ _ => ex_zero
    | succ N ih =>
      have ih4 := ih
      have L4 : ∀ (x2 : Int32) (x3 : Int32) (T : ex_S), I4 a0 S x2 x3 T → ex_P (N + 1) d 222 4 [.long a0, pm_no, .int x2, .int x3] [] T (fun r S_q => ∃ v, r = some (.int v) ∧ C a0 S v S_q) := by
        intro x2 x3 T hI
        refine ex_lo pm_M222 (pc_q := 5) (ls_q := [.long a0, pm_no, .int x2, .int x3]) (st_q := [.int x3]) rfl rfl rfl ?_
        refine ex_op pm_M222 (pc_q := 7) (st_q := [.int 50, .int x3]) rfl rfl rfl ?_
        refine ex_icmp pm_M222 (t := 32) (pc_q := 10) rfl rfl rfl (fun c1 => ?_) (fun c1 => ?_)
        · -- 50 ≤ x3
          refine ex_lo pm_M222 (pc_q := 33) (ls_q := [.long a0, pm_no, .int x2, .int x3]) (st_q := [.int x2]) rfl rfl rfl ?_
          exact ex_retI pm_M222 rfl (⟨_, rfl, v1 a0 S x2 x3 T hI c1⟩)
        · -- not
          refine ex_lo pm_M222 (pc_q := 11) (ls_q := [.long a0, pm_no, .int x2, .int x3]) (st_q := [.int x2]) rfl rfl rfl ?_
          refine ex_lo pm_M222 (pc_q := 12) (ls_q := [.long a0, pm_no, .int x2, .int x3]) (st_q := [.long a0, .int x2]) rfl rfl rfl ?_
          refine ex_lo pm_M222 (pc_q := 13) (ls_q := [.long a0, pm_no, .int x2, .int x3]) (st_q := [.int x3, .long a0, .int x2]) rfl rfl rfl ?_
          refine ex_call pm_M222 (pc_q := 16) (ix := 265) (callee := 206) (np := 2) (kd := 2) (ra := [.int x3, .long a0]) (rest := [.int x2]) rfl rfl rfl rfl pm_M206 rfl rfl rfl rfl (fun d2 => ?_)
          refine ex_lo pm_M206 (pc_q := 1) (ls_q := [.long a0, pm_no, .int x3]) (st_q := [.long a0]) rfl rfl rfl ?_
          refine ex_lo pm_M206 (pc_q := 2) (ls_q := [.long a0, pm_no, .int x3]) (st_q := [.int x3, .long a0]) rfl rfl rfl ?_
          refine ex_op pm_M206 (pc_q := 3) (st_q := [.long (a0 >>> (x3.toInt64 &&& 63))]) rfl rfl rfl ?_
          refine ex_op pm_M206 (pc_q := 4) (st_q := [.long 1, .long (a0 >>> (x3.toInt64 &&& 63))]) rfl rfl rfl ?_
          refine ex_op pm_M206 (pc_q := 5) (st_q := [.long ((a0 >>> (x3.toInt64 &&& 63)) &&& 1)]) rfl rfl rfl ?_
          refine ex_op pm_M206 (pc_q := 6) (st_q := [.long 1, .long ((a0 >>> (x3.toInt64 &&& 63)) &&& 1)]) rfl rfl rfl ?_
          refine ex_op pm_M206 (pc_q := 7) (st_q := [.int (lg_cmp ((a0 >>> (x3.toInt64 &&& 63)) &&& 1) 1)]) rfl rfl rfl ?_
          refine ex_ifc pm_M206 (t := 14) (pc_q := 10) rfl rfl rfl (fun c3 => ?_) (fun c3 => ?_)
          · -- ¬ lg_cmp ((a0 >>> (x3.toInt64 &&& 63)) &&& 1) 1 = 0
            refine ex_op pm_M206 (pc_q := 15) (st_q := [.int 0]) rfl rfl rfl ?_
            refine ex_retI pm_M206 rfl ?_
            show ex_P _ _ 222 16 [.long a0, pm_no, .int x2, .int x3] [.int 0, .int x2] T _
            refine ex_ifc pm_M222 (t := 23) (pc_q := 19) rfl rfl rfl (fun _ => ?_) (fun z => absurd (show (0 : Int32) = 0 by decide) z)
            refine ex_op pm_M222 (pc_q := 24) (st_q := [.int 0, .int x2]) rfl rfl rfl ?_
            refine ex_op pm_M222 (pc_q := 25) (st_q := [.int (x2 + 0)]) rfl rfl rfl ?_
            refine ex_lo pm_M222 (pc_q := 26) (ls_q := [.long a0, pm_no, .int (x2 + 0), .int x3]) (st_q := []) rfl rfl rfl ?_
            refine ex_lo pm_M222 (pc_q := 29) (ls_q := [.long a0, pm_no, .int (x2 + 0), .int (x3 + 1)]) (st_q := []) rfl rfl rfl ?_
            refine ex_goS pm_M222 (pc_q := 4) (st_q := []) rfl rfl ?_
            exact ih4 (x2 + 0) (x3 + 1) T (v2 a0 S x2 x3 T hI c1 c3)
          · -- not
            refine ex_op pm_M206 (pc_q := 11) (st_q := [.int 1]) rfl rfl rfl ?_
            refine ex_br pm_M206 (pc_q := 15) (st_q := [.int 1]) rfl rfl ?_
            refine ex_retI pm_M206 rfl ?_
            show ex_P _ _ 222 16 [.long a0, pm_no, .int x2, .int x3] [.int 1, .int x2] T _
            refine ex_ifc pm_M222 (t := 23) (pc_q := 19) rfl rfl rfl (fun z => absurd z (show ¬ ((1 : Int32) = 0) by decide)) (fun _ => ?_)
            refine ex_op pm_M222 (pc_q := 20) (st_q := [.int 1, .int x2]) rfl rfl rfl ?_
            refine ex_br pm_M222 (pc_q := 24) (st_q := [.int 1, .int x2]) rfl rfl ?_
            refine ex_op pm_M222 (pc_q := 25) (st_q := [.int (x2 + 1)]) rfl rfl rfl ?_
            refine ex_lo pm_M222 (pc_q := 26) (ls_q := [.long a0, pm_no, .int (x2 + 1), .int x3]) (st_q := []) rfl rfl rfl ?_
            refine ex_lo pm_M222 (pc_q := 29) (ls_q := [.long a0, pm_no, .int (x2 + 1), .int (x3 + 1)]) (st_q := []) rfl rfl rfl ?_
            refine ex_goS pm_M222 (pc_q := 4) (st_q := []) rfl rfl ?_
            exact ih4 (x2 + 1) (x3 + 1) T (v3 a0 S x2 x3 T hI c1 c3)
      exact L4
  have L4 := LL N
  refine ex_op pm_M222 (pc_q := 1) (st_q := [.int 0]) rfl rfl rfl ?_
  refine ex_lo pm_M222 (pc_q := 2) (ls_q := [.long a0, pm_no, .int 0, pm_no]) (st_q := []) rfl rfl rfl ?_
  refine ex_op pm_M222 (pc_q := 3) (st_q := [.int 0]) rfl rfl rfl ?_
  refine ex_lo pm_M222 (pc_q := 4) (ls_q := [.long a0, pm_no, .int 0, .int 0]) (st_q := []) rfl rfl rfl ?_
  exact L4 0 0 S (v0 a0 S)
set_option maxRecDepth 100000 in
set_option maxHeartbeats 4000000 in
/-- SilentTableModel.tell -/
theorem ev221 {C : Int64 → Int32 → ex_S → Int32 → ex_S → Prop} {C222 : Int64 → ex_S → Int32 → ex_S → Prop} {I15 : Int64 → Int32 → ex_S → Int32 → Int32 → ex_S → Prop} (H222 : es222 C222) 
    (v0 : ∀ (a0 : Int64) (a1 : Int32) (S : ex_S), ¬ a1 = (-1) → I15 a0 a1 S a1 0 S) 
    (v1 : ∀ (a0 : Int64) (a1 : Int32) (S : ex_S), ¬ (¬ a1 = (-1)) → ∀ (r3 : Int32) (S4 : ex_S), C222 a0 S r3 S4 → C a0 a1 S r3 S4) 
    (v2 : ∀ (a0 : Int64) (a1 : Int32) (S : ex_S) (x3 : Int32) (x4 : Int32) (T : ex_S), I15 a0 a1 S x3 x4 T → 50 ≤ x4 → C a0 a1 S (-2) T) 
    (v3 : ∀ (a0 : Int64) (a1 : Int32) (S : ex_S) (x3 : Int32) (x4 : Int32) (T : ex_S), I15 a0 a1 S x3 x4 T → ¬ (50 ≤ x4) → a1 < 0 → C a0 a1 S (-2) T) 
    (v4 : ∀ (a0 : Int64) (a1 : Int32) (S : ex_S) (x3 : Int32) (x4 : Int32) (T : ex_S), I15 a0 a1 S x3 x4 T → ¬ (50 ≤ x4) → ¬ (a1 < 0) → ¬ lg_cmp ((a0 >>> (x4.toInt64 &&& 63)) &&& 1) 1 = 0 → I15 a0 a1 S x3 (x4 + 1) T) 
    (v5 : ∀ (a0 : Int64) (a1 : Int32) (S : ex_S) (x3 : Int32) (x4 : Int32) (T : ex_S), I15 a0 a1 S x3 x4 T → ¬ (50 ≤ x4) → ¬ (a1 < 0) → ¬ (¬ lg_cmp ((a0 >>> (x4.toInt64 &&& 63)) &&& 1) 1 = 0) → ¬ x3 = 0 → I15 a0 a1 S (x3 + (-1)) (x4 + 1) T) 
    (v6 : ∀ (a0 : Int64) (a1 : Int32) (S : ex_S) (x3 : Int32) (x4 : Int32) (T : ex_S), I15 a0 a1 S x3 x4 T → ¬ (50 ≤ x4) → ¬ (a1 < 0) → ¬ (¬ lg_cmp ((a0 >>> (x4.toInt64 &&& 63)) &&& 1) 1 = 0) → ¬ (¬ x3 = 0) → C a0 a1 S x4 T) : es221 C := by
  intro N d a0 a1 S
  have LL : ∀ N : Nat, (∀ (x3 : Int32) (x4 : Int32) (T : ex_S), I15 a0 a1 S x3 x4 T → ex_P N d 221 15 [.long a0, pm_no, .int a1, .int x3, .int x4] [] T (fun r S_q => ∃ v, r = some (.int v) ∧ C a0 a1 S v S_q)) := by
    intro N
    induction N with
    | zero => exact fun _ _ _ _ => ex_zero
    | succ N ih =>
      have ih15 := ih
      have L15 : ∀ (x3 : Int32) (x4 : Int32) (T : ex_S), I15 a0 a1 S x3 x4 T → ex_P (N + 1) d 221 15 [.long a0, pm_no, .int a1, .int x3, .int x4] [] T (fun r S_q => ∃ v, r = some (.int v) ∧ C a0 a1 S v S_q) := by
        intro x3 x4 T hI
        refine ex_lo pm_M221 (pc_q := 17) (ls_q := [.long a0, pm_no, .int a1, .int x3, .int x4]) (st_q := [.int x4]) rfl rfl rfl ?_
        refine ex_op pm_M221 (pc_q := 19) (st_q := [.int 50, .int x4]) rfl rfl rfl ?_
        refine ex_icmp pm_M221 (t := 51) (pc_q := 22) rfl rfl rfl (fun c6 => ?_) (fun c6 => ?_)
        · -- 50 ≤ x4
          refine ex_op pm_M221 (pc_q := 53) (st_q := [.int (-2)]) rfl rfl rfl ?_
          exact ex_retI pm_M221 rfl (⟨_, rfl, v2 a0 a1 S x3 x4 T hI c6⟩)
        · -- not
          refine ex_lo pm_M221 (pc_q := 23) (ls_q := [.long a0, pm_no, .int a1, .int x3, .int x4]) (st_q := [.int a1]) rfl rfl rfl ?_
          refine ex_ifc pm_M221 (t := 51) (pc_q := 26) rfl rfl rfl (fun c7 => ?_) (fun c7 => ?_)
          · -- a1 < 0
            refine ex_op pm_M221 (pc_q := 53) (st_q := [.int (-2)]) rfl rfl rfl ?_
            exact ex_retI pm_M221 rfl (⟨_, rfl, v3 a0 a1 S x3 x4 T hI c6 c7⟩)
          · -- not
            refine ex_lo pm_M221 (pc_q := 27) (ls_q := [.long a0, pm_no, .int a1, .int x3, .int x4]) (st_q := [.long a0]) rfl rfl rfl ?_
            refine ex_lo pm_M221 (pc_q := 29) (ls_q := [.long a0, pm_no, .int a1, .int x3, .int x4]) (st_q := [.int x4, .long a0]) rfl rfl rfl ?_
            refine ex_call pm_M221 (pc_q := 32) (ix := 265) (callee := 206) (np := 2) (kd := 2) (ra := [.int x4, .long a0]) (rest := []) rfl rfl rfl rfl pm_M206 rfl rfl rfl rfl (fun d8 => ?_)
            refine ex_lo pm_M206 (pc_q := 1) (ls_q := [.long a0, pm_no, .int x4]) (st_q := [.long a0]) rfl rfl rfl ?_
            refine ex_lo pm_M206 (pc_q := 2) (ls_q := [.long a0, pm_no, .int x4]) (st_q := [.int x4, .long a0]) rfl rfl rfl ?_
            refine ex_op pm_M206 (pc_q := 3) (st_q := [.long (a0 >>> (x4.toInt64 &&& 63))]) rfl rfl rfl ?_
            refine ex_op pm_M206 (pc_q := 4) (st_q := [.long 1, .long (a0 >>> (x4.toInt64 &&& 63))]) rfl rfl rfl ?_
            refine ex_op pm_M206 (pc_q := 5) (st_q := [.long ((a0 >>> (x4.toInt64 &&& 63)) &&& 1)]) rfl rfl rfl ?_
            refine ex_op pm_M206 (pc_q := 6) (st_q := [.long 1, .long ((a0 >>> (x4.toInt64 &&& 63)) &&& 1)]) rfl rfl rfl ?_
            refine ex_op pm_M206 (pc_q := 7) (st_q := [.int (lg_cmp ((a0 >>> (x4.toInt64 &&& 63)) &&& 1) 1)]) rfl rfl rfl ?_
            refine ex_ifc pm_M206 (t := 14) (pc_q := 10) rfl rfl rfl (fun c9 => ?_) (fun c9 => ?_)
            · -- ¬ lg_cmp ((a0 >>> (x4.toInt64 &&& 63)) &&& 1) 1 = 0
              refine ex_op pm_M206 (pc_q := 15) (st_q := [.int 0]) rfl rfl rfl ?_
              refine ex_retI pm_M206 rfl ?_
              show ex_P _ _ 221 32 [.long a0, pm_no, .int a1, .int x3, .int x4] [.int 0] T _
              refine ex_ifc pm_M221 (t := 45) (pc_q := 35) rfl rfl rfl (fun _ => ?_) (fun z => absurd (show (0 : Int32) = 0 by decide) z)
              refine ex_lo pm_M221 (pc_q := 48) (ls_q := [.long a0, pm_no, .int a1, .int x3, .int (x4 + 1)]) (st_q := []) rfl rfl rfl ?_
              refine ex_goS pm_M221 (pc_q := 15) (st_q := []) rfl rfl ?_
              exact ih15 x3 (x4 + 1) T (v4 a0 a1 S x3 x4 T hI c6 c7 c9)
            · -- not
              refine ex_op pm_M206 (pc_q := 11) (st_q := [.int 1]) rfl rfl rfl ?_
              refine ex_br pm_M206 (pc_q := 15) (st_q := [.int 1]) rfl rfl ?_
              refine ex_retI pm_M206 rfl ?_
              show ex_P _ _ 221 32 [.long a0, pm_no, .int a1, .int x3, .int x4] [.int 1] T _
              refine ex_ifc pm_M221 (t := 45) (pc_q := 35) rfl rfl rfl (fun z => absurd z (show ¬ ((1 : Int32) = 0) by decide)) (fun _ => ?_)
              refine ex_lo pm_M221 (pc_q := 36) (ls_q := [.long a0, pm_no, .int a1, .int x3, .int x4]) (st_q := [.int x3]) rfl rfl rfl ?_
              refine ex_ifc pm_M221 (t := 42) (pc_q := 39) rfl rfl rfl (fun c10 => ?_) (fun c10 => ?_)
              · -- ¬ x3 = 0
                refine ex_lo pm_M221 (pc_q := 45) (ls_q := [.long a0, pm_no, .int a1, .int (x3 + (-1)), .int x4]) (st_q := []) rfl rfl rfl ?_
                refine ex_lo pm_M221 (pc_q := 48) (ls_q := [.long a0, pm_no, .int a1, .int (x3 + (-1)), .int (x4 + 1)]) (st_q := []) rfl rfl rfl ?_
                refine ex_goS pm_M221 (pc_q := 15) (st_q := []) rfl rfl ?_
                exact ih15 (x3 + (-1)) (x4 + 1) T (v5 a0 a1 S x3 x4 T hI c6 c7 c9 c10)
              · -- not
                refine ex_lo pm_M221 (pc_q := 41) (ls_q := [.long a0, pm_no, .int a1, .int x3, .int x4]) (st_q := [.int x4]) rfl rfl rfl ?_
                exact ex_retI pm_M221 rfl (⟨_, rfl, v6 a0 a1 S x3 x4 T hI c6 c7 c9 c10⟩)
      exact L15
  have L15 := LL N
  refine ex_lo pm_M221 (pc_q := 1) (ls_q := [.long a0, pm_no, .int a1, pm_no, pm_no]) (st_q := [.int a1]) rfl rfl rfl ?_
  refine ex_op pm_M221 (pc_q := 2) (st_q := [.int (-1), .int a1]) rfl rfl rfl ?_
  refine ex_icmp pm_M221 (t := 10) (pc_q := 5) rfl rfl rfl (fun c1 => ?_) (fun c1 => ?_)
  · -- ¬ a1 = (-1)
    refine ex_lo pm_M221 (pc_q := 11) (ls_q := [.long a0, pm_no, .int a1, pm_no, pm_no]) (st_q := [.int a1]) rfl rfl rfl ?_
    refine ex_lo pm_M221 (pc_q := 12) (ls_q := [.long a0, pm_no, .int a1, .int a1, pm_no]) (st_q := []) rfl rfl rfl ?_
    refine ex_op pm_M221 (pc_q := 13) (st_q := [.int 0]) rfl rfl rfl ?_
    refine ex_lo pm_M221 (pc_q := 15) (ls_q := [.long a0, pm_no, .int a1, .int a1, .int 0]) (st_q := []) rfl rfl rfl ?_
    exact L15 a1 0 S (v0 a0 a1 S c1)
  · -- not
    refine ex_lo pm_M221 (pc_q := 6) (ls_q := [.long a0, pm_no, .int a1, pm_no, pm_no]) (st_q := [.long a0]) rfl rfl rfl ?_
    refine ex_call pm_M221 (pc_q := 9) (ix := 337) (callee := 222) (np := 1) (kd := 2) (ra := [.long a0]) (rest := []) rfl rfl rfl rfl pm_M222 rfl rfl rfl rfl (fun d2 => (H222 _ d2 a0 S).mono (fun r S4 e => ?_))
    obtain ⟨r3, rfl, h5⟩ := e
    show ex_P _ _ 221 9 [.long a0, pm_no, .int a1, pm_no, pm_no] [.int r3] S4 _
    exact ex_retI pm_M221 rfl (⟨_, rfl, v1 a0 a1 S c1 r3 S4 h5⟩)
end
