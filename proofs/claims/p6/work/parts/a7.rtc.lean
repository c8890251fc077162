/-! THE LAW'S LOOP keeps texts the same: from cells to views -/
section
variable {ck ck1 : cl_K} {E E1 : Nat → pm_E} {m m1 mr : Nat → Int32} {o o1 : Nat → Option Nat} {wr : Int64} {h h1 h2 : pm_H}
def kdm (m : Nat) : Nat := if m = 0 then 1 else if m = 1 then 7 else if m = 2 then 9 else 13
theorem txk {t k q c b : Nat} (G : cl_G ck E) (T : cl_T ck E m o h) (I : isT (ex_V h) t k) (hq : q < 4) (e : (ex_V h).2.2.1 (t + 2 + q) c = some b) : ck b = kdm q := by
  have e : ex_eZ (h.2.2 (t + 2 + q)) c = some b := e
  rcases I with ⟨et, _⟩ | ⟨i, hi, ei, _⟩
  · subst et
    match q, hq, e with
    | 0, _, e =>
      obtain ⟨f, ef, hO⟩ := T.C 19 (by decide) (by decide)
      have e : ex_eZ (h.2.2 19) c = some b := e
      rw [ef] at e; exact hO c b e
    | 1, _, e =>
      obtain ⟨f, ef, hO⟩ := T.C 20 (by decide) (by decide)
      have e : ex_eZ (h.2.2 20) c = some b := e
      rw [ef] at e; exact hO c b e
    | 2, _, e =>
      obtain ⟨f, ef, hO⟩ := T.C 21 (by decide) (by decide)
      have e : ex_eZ (h.2.2 21) c = some b := e
      rw [ef] at e; exact hO c b e
    | 3, _, e =>
      obtain ⟨f, ef, hO⟩ := T.C 22 (by decide) (by decide)
      have e : ex_eZ (h.2.2 22) c = some b := e
      rw [ef] at e; exact hO c b e
    | q + 4, hq, _ => exact absurd hq (by omega)
  · obtain ⟨f, ef, hO⟩ := T.C 24 (by decide) (by decide)
    have ei : ex_eZ (h.2.2 24) i = some t := ei
    rw [ef] at ei
    have ht := hO i t ei
    obtain ⟨_, _, _, _, _, _, _, _, d0, d1, d2, d3, _, _⟩ := T.D.1 t ht
    match q, hq, e with
    | 0, _, e =>
      obtain ⟨f, ef, hO⟩ := d0
      have e : ex_eZ (h.2.2 (t + 2)) c = some b := e
      rw [ef] at e; exact hO c b e
    | 1, _, e =>
      obtain ⟨f, ef, hO⟩ := d1
      have e : ex_eZ (h.2.2 (t + 3)) c = some b := e
      rw [ef] at e; exact hO c b e
    | 2, _, e =>
      obtain ⟨f, ef, hO⟩ := d2
      have e : ex_eZ (h.2.2 (t + 4)) c = some b := e
      rw [ef] at e; exact hO c b e
    | 3, _, e =>
      obtain ⟨f, ef, hO⟩ := d3
      have e : ex_eZ (h.2.2 (t + 5)) c = some b := e
      rw [ef] at e; exact hO c b e
    | q + 4, hq, _ => exact absurd hq (by omega)
theorem txc {q b c : Nat} (G : cl_G ck E) (hq : q < 4) (hk : ck b = kdm q) (c1 : b ≤ c) (c2 : c < b + tcl q) : 1 ≤ ck c ∧ ck c ≤ 14 := by
  match q, hq, hk, c2 with
  | 0, _, hk, c2 =>
    have hk : ck b = 1 := hk
    have c2 : c < b + 6 := c2
    obtain ⟨g1, g2, g3, g4, g5, _⟩ := G.2.1 b hk
    rcases (show c = b ∨ c = b + 1 ∨ c = b + 2 ∨ c = b + 3 ∨ c = b + 4 ∨ c = b + 5 by omega) with w | w | w | w | w | w <;> subst w <;> omega
  | 1, _, hk, c2 =>
    have hk : ck b = 7 := hk
    have c2 : c < b + 2 := c2
    obtain ⟨g1, _⟩ := G.2.2.1 b hk
    rcases (show c = b ∨ c = b + 1 by omega) with w | w <;> subst w <;> omega
  | 2, _, hk, c2 =>
    have hk : ck b = 9 := hk
    have c2 : c < b + 4 := c2
    obtain ⟨g1, g2, g3, _⟩ := G.2.2.2.1 b hk
    rcases (show c = b ∨ c = b + 1 ∨ c = b + 2 ∨ c = b + 3 by omega) with w | w | w | w <;> subst w <;> omega
  | 3, _, hk, c2 =>
    have hk : ck b = 13 := hk
    have c2 : c < b + 2 := c2
    obtain ⟨g1, _⟩ := G.2.2.2.2.1 b hk
    rcases (show c = b ∨ c = b + 1 by omega) with w | w <;> subst w <;> omega
  | q + 4, hq, _, _ => exact absurd hq (by omega)
theorem tsame_of {q b : Nat} (e : ∀ c, b ≤ c → c < b + tcl q → h1.2.2 c = h.2.2 c) : tsame q b (ex_V h) (ex_V h1) := fun c c1 c2 =>
  ⟨funext (fun j => congrArg (fun x => ex_eX x j) (e c c1 c2)), funext (fun j => congrArg (fun x => ex_eY x j) (e c c1 c2)), funext (fun j => congrArg (fun x => ex_eZ x j) (e c c1 c2))⟩
theorem tkeep_F {A : List Nat} {n s : Nat} (G : cl_G ck E) (T : cl_T ck E m o h) (F : cl_F ck A n s h h1) (hA : (A.all fun a => decide (a < 72)) = true) : tkeep (ex_V h) (ex_V h1) := fun t k I q hq c b _ e b72 => tsame_of (fun a a1 a2 => by
  obtain ⟨k1, k2⟩ := txc G hq (txk G T I hq e) a1 a2
  refine F.2.2.2.2 a (T.al rfl (by omega)) (fun z => ?_) (by omega)
  have := List.all_eq_true.mp hA a z
  simp only [decide_eq_true_eq] at this
  omega)
theorem tkeep_E (G : cl_G ck E) (T : cl_T ck E m o h) (T1 : cl_T ck1 E m1 o1 h1) (A1 : ∀ b, b < h.1 → ck1 b = ck b) : tkeep (ex_V h) (ex_V h1) := fun t k I q hq c b _ e b72 => tsame_of (fun a a1 a2 => by
  obtain ⟨k1, k2⟩ := txc G hq (txk G T I hq e) a1 a2
  have al : a < h.1 := T.al rfl (by omega)
  rw [T.2.2.2.2.2.2.2.2.2.2.2.1 a k1 k2]
  exact T1.2.2.2.2.2.2.2.2.2.2.2.1 a (by rw [A1 a al]; exact k1) (by rw [A1 a al]; exact k2))
theorem tkeep_R : tkeep (ex_V h) (ex_V h) := fun _ _ _ _ _ _ _ _ _ _ => fun _ _ _ => ⟨rfl, rfl, rfl⟩
theorem tkeep_hi (e : ∀ x, (x < 17 ∨ 23 < x) → h1.2.2 x = h.2.2 x) : tkeep (ex_V h) (ex_V h1) := fun t k I q hq c b _ _ b72 => tsame_of (fun a a1 a2 => e a (by omega))
theorem R2_cl {A : List Nat} {n s : Nat} (G : cl_G ck E) (T : cl_T ck E m o h) (F : cl_F ck A n s h h1) (hA : (A.all fun a => decide (a < 72) && decide (a < 17 ∨ 24 < a) && decide (a < 41)) = true) (R : R2 (ex_V h)) : R2 (ex_V h1) := by
  have nA : ∀ a ∈ A, (a < 17 ∨ 24 < a) ∧ a < 41 := fun a ha => by
    have := List.all_eq_true.mp hA a ha
    simp only [Bool.and_eq_true, decide_eq_true_eq] at this
    exact ⟨this.1.2, this.2⟩
  have hA' : (A.all fun a => decide (a < 72)) = true := List.all_eq_true.mpr (fun a ha => decide_eq_true (by have := nA a ha; omega))
  have low : ∀ a, (17 ≤ a ∧ a ≤ 24) ∨ (41 ≤ a ∧ a < 72) → h1.2.2 a = h.2.2 a := fun a ha => F.cell G (fun z => by have := nA a z; omega) (by omega) rfl
  refine ⟨R1_cl G T F hA R.1, R.2.keep (tkeep_F G T F hA') (fun t k I q hq => ?_) (fun i => congrArg (fun e => ex_eZ e i) (low 24 (by omega))) (fun c j h1 h2 => congrArg (fun e => ex_eX e j) (low c (by omega)))⟩
  have ce : ∀ c, t ≤ c → c < t + 7 → h1.2.2 c = h.2.2 c := fun c c1 c2 => by
    rcases I with ⟨et, _⟩ | ⟨i, hi, ei, _⟩
    · exact low c (by omega)
    · exact img_keep G T F hA' i t hi ei c c1 c2
  exact ⟨congrArg (fun e => ex_eX e q) (ce (t + 6) (by omega) (by omega)), fun c => congrArg (fun e => ex_eZ e c) (ce (t + 2 + q) (by omega) (by omega))⟩
theorem R2_rf {A : List Nat} (F : rf_G A h h2) (hA : (A.all fun a => decide (41 ≤ a) && decide (a < 71) && decide (a < 42 ∨ 50 < a)) = true) (R : R2 (ex_V h)) : R2 (ex_V h2) := by
  have nA : ∀ a ∈ A, 41 ≤ a ∧ a < 71 ∧ (a < 42 ∨ 50 < a) := fun a ha => by
    have := List.all_eq_true.mp hA a ha
    simp only [Bool.and_eq_true, decide_eq_true_eq] at this
    exact ⟨this.1.1, this.1.2, this.2⟩
  have no : ∀ a, a < 41 ∨ (42 ≤ a ∧ a ≤ 50) ∨ 70 < a → h2.2.2 a = h.2.2 a := fun a ha => F.2.2 a (fun z => by have := nA a z; omega)
  refine ⟨R1_rf F (List.all_eq_true.mpr (fun a ha => by
    have := nA a ha
    simp only [Bool.and_eq_true, decide_eq_true_eq]
    omega)) R.1, R.2.keep (fun t k I q hq c b _ e b72 => tsame_of (fun a a1 a2 => no a (by omega))) (fun t k I q hq => ?_) (fun i => congrArg (fun e => ex_eZ e i) (no 24 (by omega))) (fun c j h1 h2 => congrArg (fun e => ex_eX e j) (no c (by omega)))⟩
  have ce : ∀ c, t ≤ c → c < t + 7 → h2.2.2 c = h.2.2 c := fun c c1 c2 => by
    rcases I with ⟨et, _⟩ | ⟨i, hi, ei, _⟩
    · exact no c (by omega)
    · have := (R.1.2.1 i t hi ei).1
      exact no c (by omega)
  exact ⟨congrArg (fun e => ex_eX e q) (ce (t + 6) (by omega) (by omega)), fun c => congrArg (fun e => ex_eZ e c) (ce (t + 2 + q) (by omega) (by omega))⟩
theorem R2_feed {a0 a1 a2 a3 a4 v w : Int32} {S S1 S2 : ex_S} {n : Nat} (e : S.1 17 1 = Int32.ofNat n) (hn : n ≤ 600) (R : R2 S) (h1 : fF 18 17 1 a0 a1 a2 a3 a4 S v S1) (h2 : fF 42 43 0 a0 a1 a2 a3 a4 S1 w S2) : R2 S2 := ⟨(R_feed e hn R.1 h1 h2).2, RT_feed R.1 R.2 h1 h2⟩
theorem R2_end {a v w : Int32} {S S1 S2 : ex_S} (R : R2 S) (h1 : eE 17 1 a S v S1) (h2 : eE 43 0 a S1 w S2) : R2 S2 := ⟨(R_end R.1 h1 h2).2, RT_end R.1 R.2 h1 h2⟩
theorem R2_image {a v w : Int32} {S S1 S2 : ex_S} (R : R2 S) (W : tW S) (h1 : ciC a S v S1) (h2 : riC a S1 w S2) (tk : tkeep S S1) : R2 S2 := ⟨(R_image R.1 W h1 h2).2, RT_image R.1 R.2 W h1 h2 tk⟩
theorem R2_again {a v w : Int32} {S S1 S2 : ex_S} (R : R2 S) (W : tW S) (h1 : cgC a S v S1) (h2 : rgC a S1 w S2) (tk : tkeep S S1) : R2 S2 := ⟨(R_again R.1 W h1 h2).2, RT_again R.1 R.2 W h1 h2 tk⟩
theorem cq10_of (T : cl_T ck E m o h) : cq10 (ex_V h) := by
  obtain ⟨f26, e26⟩ := T.C 26 (by decide) (by decide)
  obtain ⟨f27, e27⟩ := T.C 27 (by decide) (by decide)
  refine ⟨?_, ?_⟩
  · show ex_eL (h.2.2 26) = 200
    rw [e26]; rfl
  · show ex_eL (h.2.2 27) = 64
    rw [e27]; rfl
theorem seats_of (G : cl_G ck E) (T : cl_T ck E m o h) (i b : Nat) (e : (ex_V h).2.2.1 21 i = some b) : ∃ sn, (ex_V h).1 b 0 = Int32.ofNat sn ∧ sn ≤ 6 := by
  obtain ⟨f, ef, hO⟩ := T.C 21 (by decide) (by decide)
  have e : ex_eZ (h.2.2 21) i = some b := e
  rw [ef] at e
  have hk : ck b = 9 := hO i b e
  obtain ⟨_, _, _, s, n, _, _, _, _, s6, _, eE, _⟩ := G.2.2.2.1 b hk
  refine ⟨s, ?_, s6⟩
  show ex_eX (h.2.2 b) 0 = _
  rw [T.2.2.2.2.2.2.2.2.2.2.2.1 b (by omega) (by omega), eE]; rfl
theorem R2_text_h {A : List Nat} {n s nn : Nat} {x1 x2 r1 r2 : Int32} (G : cl_G ck E) (T : cl_T ck E m o h) (F : cl_F ck A n s h h1) (hA : (A.all fun a => decide (a < 72)) = true) (en : (ex_V h).1 17 1 = Int32.ofNat nn) (hnn : nn ≤ 600) (K : ex_K h) (R : R2 (ex_V h)) (P1 : cxC x1 x2 (ex_V h) r1 (ex_V h1)) (D1 : cxD x1 x2 (ex_V h) r1 (ex_V h1)) (ot : ∀ a, 41 ≤ a → a < 72 → h1.2.2 a = h.2.2 a) (g24 : h1.2.2 24 = h.2.2 24) (G1 : cl_G ck1 E1) (T1 : cl_T ck1 E1 m1 o1 h1) (Tr1 : rf_T mr wr h1) (P2 : rxC x1 x2 (ex_V h1) r2 (ex_V h2)) (D2 : rxD x1 x2 (ex_V h1) r2 (ex_V h2)) (hi2 : ∀ a, (a < 41 ∨ 71 < a) → h2.2.2 a = h1.2.2 a) : r1 = r2 ∧ R2 (ex_V h2) := by
  have v1 : ∀ c j, 41 ≤ c → c < 72 → (ex_V h1).1 c j = (ex_V h).1 c j := fun c j c1 c2 => congrArg (fun e => ex_eX e j) (ot c c1 c2)
  have e43 : (ex_V h1).1 43 0 = Int32.ofNat nn := (v1 43 0 (by decide) (by decide)).trans ((R.1.1.2.1 1 (by decide) (by decide)).symm.trans en)
  have hB : ∀ i, sf_B (-128) 127 ((ex_V h1).1 42 i) := fun i => by rw [v1 42 i (by decide) (by decide)]; exact R.1.2.2.2 i
  obtain ⟨vw, RR⟩ := R_text_h G T F hA en hnn K R.1 P1 ot g24 Tr1 P2 hi2
  refine ⟨vw, RR, RT_text en (cq11_of T K hnn) (cq10_of T) R.1 R.2 P1 D1 v1 (fun i => congrArg (fun e => ex_eZ e i) g24) (fun i b hi eb c c1 c2 => ?_) (tkeep_F G T F hA) (fun b e => seats_of G1 T1 _ b e) (rxq_of Tr1 e43 hnn hB) P2 D2 (fun c hc => funext (fun j => congrArg (fun e => ex_eX e j) (hi2 c hc))) (fun c hc => funext (fun j => congrArg (fun e => ex_eY e j) (hi2 c hc))) (fun c hc => funext (fun j => congrArg (fun e => ex_eZ e j) (hi2 c hc))) vw⟩
  have e := img_keep G T F hA i b hi eb c c1 c2
  exact ⟨funext (fun j => congrArg (fun x => ex_eX x j) e), funext (fun j => congrArg (fun x => ex_eZ x j) e)⟩
end
def p6_I (L : Nat) (xs : Nat → Int32) (j : Nat) (h : pm_H) : Prop := p2_I L xs j h ∧ ex_W h ∧ ex_K h ∧ R2 (ex_V h)
theorem p6_I0 {fm : Bool} {L : Nat} {xs : Nat → Int32} {f : Nat → pm_E} (hf : ∀ i, i < 72 → f i = pm_fF fm L xs i) (I : p2_I L xs 0 (72, 52657, f)) : p6_I L xs 0 (72, 52657, f) := by
  refine ⟨I, (p4_K0 hf).1, (p4_K0 hf).2, p4_R0 hf, fun t k T m hm c hc hl => ?_⟩
  exfalso
  rcases T with ⟨et, _⟩ | ⟨i, hi, ei, _⟩
  · subst et
    have hl : Int32.ofNat c < ex_eX (f 23) m := hl
    rw [hf 23 (by decide)] at hl
    have hl : Int32.ofNat c < 0 := hl
    have l := Int32.lt_iff_toInt_lt.mp hl
    have tl := tlen_le m
    rw [n32_i (by omega), show (0 : Int32).toInt = 0 from rfl] at l
    omega
  · have ei : ex_eZ (f 24) i = some t := ei
    rw [hf 24 (by decide)] at ei
    have e2 : (none : Option Nat) = some t := ei
    cases e2
