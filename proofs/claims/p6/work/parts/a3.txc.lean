/-! WHAT A TEXT LEAVES in the class -/
def cxi (s : Int32) : Nat := if s = 0 then 19 else if s = 1 then 20 else if s = 2 then 21 else 22
def cc43d (s n : Int32) (S S' : ex_S) : Prop := 72 ≤ S.2.2.2.2 ∧ ∃ S7, (s = 0 → mL S.2.2.2.2 (ex_new S 0) S7) ∧ (s = 1 → mR S.2.2.2.2 (ex_new S 0) S7) ∧ (s = 2 → mM S.2.2.2.2 (ex_new S 0) S7) ∧ (¬ s = 0 → ¬ s = 1 → ¬ s = 2 → mH S.2.2.2.2 (ex_new S 0) S7) ∧ S' = ex_sz S7 (cxi s) n.toNatClampNeg (some S.2.2.2.2)
theorem ec43d : es43 cc43d := by
  refine ev43 ec44c ec47c ec48c ec54c ?_ ?_ ?_ ?_
  · intro s n S e h72 S7 h
    refine ⟨h72, S7, fun _ => h, fun z => absurd (e.symm.trans z) (by decide), fun z => absurd (e.symm.trans z) (by decide), fun z => absurd e z, ?_⟩
    unfold cxi; rw [if_pos e]
  · intro s n S e0 e h72 S7 h
    refine ⟨h72, S7, fun z => absurd z e0, fun _ => h, fun z => absurd (e.symm.trans z) (by decide), fun _ z => absurd e z, ?_⟩
    unfold cxi; rw [if_neg e0, if_pos e]
  · intro s n S e0 e1 e h72 S7 h
    refine ⟨h72, S7, fun z => absurd z e0, fun z => absurd z e1, fun _ => h, fun _ _ z => absurd e z, ?_⟩
    unfold cxi; rw [if_neg e0, if_neg e1, if_pos e]
  · intro s n S e0 e1 e2 h72 S7 h
    refine ⟨h72, S7, fun z => absurd z e0, fun z => absurd z e1, fun z => absurd z e2, fun _ _ _ => h, ?_⟩
    unfold cxi; rw [if_neg e0, if_neg e1, if_neg e2]
/-- the tables of a LIST at b are what its rows say -/
def wfL (S : ex_S) (b tc : Nat) : Prop := (∀ j, S.2.1 (b + 1) j = vtab (S.1 (b + 4)) tc j) ∧ (∀ g s, g < 10 → s < 10 → S.1 (b + 2) (10 * g + s) = wtab (S.1 (b + 5)) g s) ∧ S.1 b 7 = wrest (S.1 (b + 5)) 9
def wfM (S : ex_S) (b dc sn : Nat) : Prop := (∀ j, S.1 (b + 2) j = graw (S.1 (b + 1)) sn dc j) ∧ ∀ j, j < dc → S.1 (b + 3) j = sraw (S.1 (b + 1)) sn j
/-- what a text tells lies at t -/
def conL (S : ex_S) (t : Nat) (A : pA) : Prop := (S.2.2.1 t 5 = some (t + 1) ∧ S.2.2.1 t 6 = some (t + 2) ∧ S.2.2.1 t 1 = some (t + 3) ∧ S.2.2.1 t 3 = some (t + 4) ∧ S.2.2.1 t 4 = some (t + 5)) ∧ S.1 t 0 = Int32.ofNat (pic A) ∧ S.1 t 2 = Int32.ofNat (prc A) ∧ (∀ k j, k < pic A → j < 4 → S.1 (t + 3) (4 * k + j) = pit A k j) ∧ (∀ k j, k < prc A → j < 4 → S.1 (t + 4) (4 * k + j) = prd A k j) ∧ (∀ k, k < 10 → S.1 (t + 5) k = pnr A k) ∧ wfL S t (prc A)
def conR (S : ex_S) (t : Nat) (A : pA) : Prop := S.2.2.1 t 1 = some (t + 1) ∧ S.1 t 0 = Int32.ofNat (pic A) ∧ ∀ k, k < pic A → S.1 (t + 1) k = pit A k 0
def conM (S : ex_S) (t : Nat) (A : pA) : Prop := (S.2.2.1 t 2 = some (t + 1) ∧ S.2.2.1 t 3 = some (t + 2) ∧ S.2.2.1 t 4 = some (t + 3)) ∧ S.1 t 0 = pst A ∧ S.1 t 1 = Int32.ofNat (pic A) ∧ (∀ k j, k < pic A → j < 4 → S.1 (t + 1) (4 * k + j) = pit A k j) ∧ ∀ sn, pst A = Int32.ofNat sn → sn ≤ 6 → wfM S t (pic A) sn
def conH (S : ex_S) (t : Nat) (A : pA) : Prop := S.2.2.1 t 1 = some (t + 1) ∧ S.1 t 0 = Int32.ofNat (pic A) ∧ ∀ k j, k < pic A → j < 4 → S.1 (t + 1) (4 * k + j) = pit A k j
def con (s : Int32) (S : ex_S) (t : Nat) (A : pA) : Prop := (s = 0 → conL S t A) ∧ (s = 1 → conR S t A) ∧ (s = 2 → conM S t A) ∧ (¬ s = 0 → ¬ s = 1 → ¬ s = 2 → conH S t A)
theorem con.keep {s : Int32} {S S' : ex_S} {t : Nat} {A : pA} (h : con s S t A) (e1 : ∀ c, t ≤ c → S'.1 c = S.1 c) (e2 : ∀ c, t ≤ c → S'.2.1 c = S.2.1 c) (e3 : ∀ c, t ≤ c → S'.2.2.1 c = S.2.2.1 c) : con s S' t A := by
  have g0 := e1 t (Nat.le_refl _)
  have g1 := e1 (t + 1) (by omega)
  have g2 := e1 (t + 2) (by omega)
  have g3 := e1 (t + 3) (by omega)
  have g4 := e1 (t + 4) (by omega)
  have g5 := e1 (t + 5) (by omega)
  have y1 := e2 (t + 1) (by omega)
  have z0 := e3 t (Nat.le_refl _)
  obtain ⟨h0, h1, h2, h3⟩ := h
  refine ⟨fun e => ?_, fun e => ?_, fun e => ?_, fun a b c => ?_⟩
  · have w := h0 e
    unfold conL wfL at w ⊢
    rw [g0, g2, g3, g4, g5, y1, z0]; exact w
  · have w := h1 e
    unfold conR at w ⊢
    rw [g0, g1, z0]; exact w
  · have w := h2 e
    unfold conM wfM at w ⊢
    rw [g0, g1, g2, g3, z0]; exact w
  · have w := h3 a b c
    unfold conH at w ⊢
    rw [g0, g1, z0]; exact w
theorem vtab_cg {r r' : Nat → Int32} (i : Nat) (h : ∀ j, j < 4 * i → r j = r' j) (j : Nat) : vtab r i j = vtab r' i j := by
  induction i with
  | zero => rfl
  | succ i ih =>
    unfold vtab
    rw [h (4 * i) (by omega), h (4 * i + 1) (by omega), h (4 * i + 2) (by omega), ih (fun j hj => h j (by omega))]
theorem gcp_cg {g g' : Nat → Int32} (h : ∀ j, g j = g' j) (sn k j : Nat) : gcp g sn k j = gcp g' sn k j := by
  unfold gcp
  rw [h, h]
theorem graw_cg {D D' : Nat → Int32} {sn : Nat} (k : Nat) (h : ∀ j, j < 4 * k → D j = D' j) (j : Nat) : graw D sn k j = graw D' sn k j := by
  induction k generalizing j with
  | zero => rfl
  | succ k ih =>
    unfold graw
    rw [h (4 * k) (by omega), h (4 * k + 1) (by omega), h (4 * k + 2) (by omega), gcp_cg (fun j => ih (fun j hj => h j (by omega)) j)]
theorem sraw_cg {D D' : Nat → Int32} {sn k : Nat} (h : ∀ j, j < 4 * (k + 1) → D j = D' j) : sraw D sn k = sraw D' sn k := by
  unfold sraw
  rw [h (4 * k) (by omega), h (4 * k + 1) (by omega), show gcp (graw D sn k) sn k = gcp (graw D' sn k) sn k from funext (gcp_cg (fun j => graw_cg k (fun j hj => h j (by omega)) j) sn k)]
/-- pit by a place in the array -/
theorem ofps {R : Nat → Int32} {f : Nat → Nat → Int32} {n : Nat} (h : ∀ k j, k < n → j < 4 → R (4 * k + j) = f k j) : ∀ {T : Nat → Int32}, (∀ j, j < 4 * n → T j = R j) → ∀ k j, k < n → j < 4 → T (4 * k + j) = f k j := fun e k j hk hj => (e _ (by omega)).trans (h k j hk hj)
/-- what keepText has made, where the reader holds A -/
theorem con_of {s n : Int32} {S S' : ex_S} {A : pA} (h : cc43d s n S S') (l26 : S.2.2.2.1 26 = 200) (l27 : S.2.2.2.1 27 = 64) (hf : pf A = 0) (hr : if s = 1 then rr S A else ra S A) : (∀ c k, 19 ≤ c → c ≤ 22 → S'.2.2.1 c k = if c = cxi s ∧ k = n.toNatClampNeg then some S.2.2.2.2 else S.2.2.1 c k) ∧ con s S' S.2.2.2.2 A := by
  obtain ⟨h72, S7, m0, m1, m2, m3, e⟩ := h
  generalize et : S.2.2.2.2 = t at h72 m0 m1 m2 m3 e
  have nt : t + 1 = (ex_new S 0).2.2.2.2 := by rw [← et]; rfl
  have nx : ∀ c k, c < t → (ex_new S 0).1 c k = S.1 c k := fun c k hc => nw1 (by omega) k
  have nz : ∀ c k, c < t → (ex_new S 0).2.2.1 c k = S.2.2.1 c k := fun c k hc => nw3 (by omega) k
  have nl : ∀ c, c < t → (ex_new S 0).2.2.2.1 c = S.2.2.2.1 c := fun c hc => nw4 (by omega)
  have n26 : (ex_new S 0).2.2.2.1 26 = 200 := (nl 26 (by omega)).trans l26
  have n27 : (ex_new S 0).2.2.2.1 27 = 64 := (nl 27 (by omega)).trans l27
  have ci : 19 ≤ cxi s ∧ cxi s ≤ 22 := by
    unfold cxi
    split
    · omega
    · split
      · omega
      · split <;> omega
  have refs : lowEq t (ex_new S 0) S7 → ∀ c k, 19 ≤ c → c ≤ 22 → S'.2.2.1 c k = if c = cxi s ∧ k = n.toNatClampNeg then some t else S.2.2.1 c k := fun L c k h1 h2 => by
    rw [e, sz_at, (L c (by omega)).2.2.1 k, nz c k (by omega)]
  have tr : con s S7 t A → con s S' t A := fun c => c.keep (fun b hb => by rw [e]; rfl) (fun b hb => by rw [e]; rfl) (fun b hb => by
    funext k
    rw [e, sz_ne (by omega)])
  by_cases s0 : s = 0
  · obtain ⟨⟨b1, b2, b3, b4, b5, b6, b7, b8⟩, v, w, r⟩ := m0 s0 ⟨nt, h72, n26, n27⟩
    rw [if_neg (by rw [s0]; decide)] at hr
    obtain ⟨c1, c2, c3, c4, c5, c6, c7, c8, c9⟩ := hr.2.2 hf
    have x4 : (ex_new S 0).1 25 4 = Int32.ofNat (pic A) := (nx _ _ (by omega)).trans c1
    have x6 : (ex_new S 0).1 25 6 = Int32.ofNat (prc A) := (nx _ _ (by omega)).trans c3
    have e28 : S7.1 (t + 5) = (ex_new S 0).1 28 := funext b8
    refine ⟨refs b1, tr ⟨fun _ => ⟨b3, b4.trans x4, b5.trans x6, ofps c7 (fun j hj => (b6 _ x4 c2 j hj).trans (nx _ _ (by omega))), ofps c8 (fun j hj => (b7 _ x6 c4 j hj).trans (nx _ _ (by omega))), fun k hk => (b8 k).trans ((nx _ _ (by omega)).trans (c9 k hk)), fun j => ?_, fun g q hg hq => by rw [e28]; exact w g q hg hq, by rw [e28]; exact r⟩, fun z => absurd (s0.symm.trans z) (by decide), fun z => absurd (s0.symm.trans z) (by decide), fun z => absurd s0 z⟩⟩
    rw [v _ x6 c4 j]
    exact (vtab_cg _ (fun i hi => b7 _ x6 c4 i hi) j).symm
  by_cases s1 : s = 1
  · obtain ⟨b1, b2, b3, b4, b5⟩ := m1 s1 nt h72 n26
    rw [if_pos s1] at hr
    obtain ⟨c1, c2, c3⟩ := hr.2.2 hf
    have x4 : (ex_new S 0).1 25 4 = Int32.ofNat (pic A) := (nx _ _ (by omega)).trans c1
    exact ⟨refs b1, tr ⟨fun z => absurd z s0, fun _ => ⟨b3, b4.trans x4, fun k hk => (b5 _ x4 c2 k hk).trans ((nx _ _ (by omega)).trans (c3 k hk))⟩, fun z => absurd (s1.symm.trans z) (by decide), fun _ z => absurd s1 z⟩⟩
  rw [if_neg s1] at hr
  obtain ⟨c1, c2, c3, c4, c5, c6, c7, c8, c9⟩ := hr.2.2 hf
  have x4 : (ex_new S 0).1 25 4 = Int32.ofNat (pic A) := (nx _ _ (by omega)).trans c1
  by_cases s2 : s = 2
  · obtain ⟨⟨b1, b2, b3, b4, b5, b6⟩, w⟩ := m2 s2 ⟨nt, h72, n26⟩
    have x8 : (ex_new S 0).1 25 8 = pst A := (nx _ _ (by omega)).trans c5
    have d := b6 _ x4 c2
    refine ⟨refs b1, tr ⟨fun z => absurd z s0, fun z => absurd z s1, fun _ => ⟨b3, b4.trans x8, b5.trans x4, ofps c7 (fun j hj => (d j hj).trans (nx _ _ (by omega))), fun sn es ls => ?_⟩, fun _ _ z => absurd s2 z⟩⟩
    obtain ⟨w1, w2, w3⟩ := w _ sn x4 c2 (x8.trans es) ls
    refine ⟨fun j => (w2 j).trans (graw_cg _ d j).symm, fun j hj => ?_⟩
    rw [w3, if_pos hj]
    exact (sraw_cg (fun i hi => d i (by omega))).symm
  · obtain ⟨b1, b2, b3, b4, b5⟩ := m3 s0 s1 s2 nt h72 n26
    exact ⟨refs b1, tr ⟨fun z => absurd z s0, fun z => absurd z s1, fun z => absurd z s2, fun _ _ _ => ⟨b3, b4.trans x4, ofps c7 (fun j hj => (b5 _ x4 c2 j hj).trans (nx _ _ (by omega)))⟩⟩⟩
/-- text, and what it leaves -/
def cq10 (S : ex_S) : Prop := S.2.2.2.1 26 = 200 ∧ S.2.2.2.1 27 = 64
def cxDA (s at_ : Int32) (A : pA) (S : ex_S) (v : Int32) (S' : ex_S) : Prop := (¬ (txok s at_ (S.1 23 s.toNatClampNeg) (ex_st 1 s.toNatClampNeg) ∧ pf A = 0) → ∀ c k, 19 ≤ c → c ≤ 22 → S'.2.2.1 c k = S.2.2.1 c k) ∧ (txok s at_ (S.1 23 s.toNatClampNeg) (ex_st 1 s.toNatClampNeg) → pf A = 0 → 72 ≤ S.2.2.2.2 ∧ (∀ c k, 19 ≤ c → c ≤ 22 → S'.2.2.1 c k = if c = cxi s ∧ k = v.toNatClampNeg then some S.2.2.2.2 else S.2.2.1 c k) ∧ con s S' S.2.2.2.2 A)
def cxD (s at_ : Int32) (S : ex_S) (v : Int32) (S' : ex_S) : Prop := ∀ n, S.1 17 1 = Int32.ofNat n → cq11 S n → cq10 S → cxDA s at_ (ps_text s (S.1 18) n) S v S'
theorem cd_no {s at_ : Int32} {S : ex_S} (h : ¬ txok s at_ (S.1 23 s.toNatClampNeg) (ex_st 1 s.toNatClampNeg)) : cxD s at_ S (-2) (cx0 S) :=
  fun n _ _ _ => ⟨fun _ c k _ _ => by rw [(cx0_fx S).2], fun z => absurd z h⟩
theorem cd_rd {s : Int32} {S S8 : ex_S} (h : cc11 (S.1 17 1) s (cx0 S) S8) : S8.2 = S.2 ∧ ∀ n, S.1 17 1 = Int32.ofNat n → cq11 S n → if s = 1 then rr S8 (ps_text s (S.1 18) n) else ra S8 (ps_text s (S.1 18) n) := by
  refine ⟨h.1.2.trans (cx0_fx S).2, fun n e q => ?_⟩
  have e18 : (cx0 S).1 18 = S.1 18 := by funext j; exact (cx0_fx S).1 18 j (by omega)
  have r := h.2 n e (cx_q q)
  rw [e18] at r
  exact r
theorem cd_pf {s : Int32} {S8 : ex_S} {A : pA} (h : if s = 1 then rr S8 A else ra S8 A) : S8.1 25 1 = pf A := by
  split at h
  · exact h.1
  · exact h.1
theorem cd_bad {s at_ : Int32} {S S8 : ex_S} (h : cc11 (S.1 17 1) s (cx0 S) S8) (c : ¬ (S8.1 25 1 = 0)) : cxD s at_ S (-1) (ex_sx (ex_sx S8 17 2 (S8.1 25 1)) 17 3 (S8.1 25 2)) := by
  obtain ⟨F, r⟩ := cd_rd h
  intro n e q q2
  have e1 := cd_pf (r n e q)
  refine ⟨fun _ c k _ _ => ?_, fun _ z => absurd (e1.trans z) c⟩
  rw [sx2, sx2, F]
theorem ra_sx {s : Int32} {S : ex_S} {A : pA} {k : Nat} {v : Int32} (h : if s = 1 then rr S A else ra S A) : if s = 1 then rr (ex_sx S 17 k v) A else ra (ex_sx S 17 k v) A := by
  split
  · rename_i e
    rw [if_pos e] at h
    exact h.keep (fun j => ex_sx_ne (by omega)) (fun j => ex_sx_ne (by omega))
  · rename_i e
    rw [if_neg e] at h
    exact h.keep (fun j => ex_sx_ne (by omega)) (fun j => ex_sx_ne (by omega)) (fun j => ex_sx_ne (by omega)) (fun j => ex_sx_ne (by omega))
theorem cd_good {s at_ v : Int32} {S S8 S13 S' : ex_S} (ok : txok s at_ (S.1 23 s.toNatClampNeg) (ex_st 1 s.toNatClampNeg)) (h : cc11 (S.1 17 1) s (cx0 S) S8) (c : S8.1 25 1 = 0) (h13 : cc43d s v (ex_sx (ex_sx S8 17 2 (S8.1 25 1)) 17 3 (S8.1 25 2)) S13) (e1 : ∀ c, 72 ≤ c → S'.1 c = S13.1 c) (e2 : S'.2 = S13.2) : cxD s at_ S v S' := by
  obtain ⟨F, r⟩ := cd_rd h
  intro n e q q2
  have R := r n e q
  have ez := cd_pf R
  have hf : pf (ps_text s (S.1 18) n) = 0 := ez.symm.trans c
  refine ⟨fun z => absurd ⟨ok, hf⟩ z, fun _ _ => ?_⟩
  have t72 : 72 ≤ S.2.2.2.2 := by
    have := h13.1
    rw [sx2, sx2, F] at this
    exact this
  obtain ⟨g1, g2⟩ := con_of h13 (by rw [sx2, sx2, F]; exact q2.1) (by rw [sx2, sx2, F]; exact q2.2) hf (ra_sx (ra_sx R))
  rw [sx2, sx2, F] at g1 g2
  refine ⟨t72, fun c k h1 h2 => by rw [e2]; exact g1 c k h1 h2, g2.keep (fun b hb => e1 b (by omega)) (fun b _ => by rw [e2]) (fun b _ => by rw [e2])⟩
theorem ec10d : es10 cxD := by
  refine ev10 ec11 ec43d ?_ ?_ ?_ ?_ ?_ ?_ ?_ ?_ ?_
  · intro s a S c
    exact cd_no (fun z => Int32.not_le.mpr c z.1)
  · intro s a S c c2 c3 c4
    exact cd_no (fun z => Int32.not_le.mpr c4 (z.2.2.2 c3).1)
  · intro s a S c c2 c3 c4 c5 S8 h8 c6 S13 h13
    exact cd_good ⟨Int32.not_lt.mp c, lt4_le3.mp c2, fun z => absurd z c3, fun _ => ⟨Int32.not_lt.mp c4, c5⟩⟩ h8 c6 h13 (fun _ _ => rfl) rfl
  · intro s a S c c2 c3 c4 c5 S8 h8 c6
    exact cd_bad h8 c6
  · intro s a S c c2 c3 c4 c5
    exact cd_no (fun z => c5 (z.2.2.2 c3).2)
  · intro s a S c c2 c3 c4 S8 h8 c6 S13 h13
    have c3 := Classical.not_not.mp c3
    exact cd_good ⟨Int32.not_lt.mp c, lt4_le3.mp c2, fun _ => c4, fun z => absurd c3 z⟩ h8 c6 h13 (fun b hb => funext (fun k => ex_sx_ne (fun z => by omega))) rfl
  · intro s a S c c2 c3 c4 S8 h8 c6
    exact cd_bad h8 c6
  · intro s a S c c2 c3 c4
    have c3 := Classical.not_not.mp c3
    exact cd_no (fun z => c4 (z.2.2.1 c3))
  · intro s a S c c2
    exact cd_no (fun z => c2 (lt4_le3.mpr z.2.1))
