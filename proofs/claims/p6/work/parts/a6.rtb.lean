/-! TEXTS stay the same behind feed, end, image, again -/
theorem RT.low {S S2 : ex_S} (R : RT S) (R1S : R1 S) (h : ∀ c j, (19 ≤ c ∧ c ≤ 24) ∨ (47 ≤ c ∧ c ≤ 50) ∨ 72 ≤ c → S2.1 c j = S.1 c j) (e : S2.2 = S.2) : RT S2 := by
  refine R.keep (fun t k T m hm c b hc eb b72 c' h1 h2 => ⟨funext (fun j => h c' j (by omega)), by rw [e], by rw [e]⟩) (fun t k T m hm => ⟨?_, fun c => by rw [e]⟩) (fun i => by rw [e]) (fun c j h1 h2 => h c j (by omega))
  rcases T with ⟨et, _⟩ | ⟨i, hi, eb, _⟩
  · exact h _ _ (by omega)
  · have := (R1S.2.1 i t hi eb).1
    exact h _ _ (by omega)
theorem RT_feed {a0 a1 a2 a3 a4 v w : Int32} {S S1 S2 : ex_S} (R : R1 S) (RTS : RT S) (h1 : fF 18 17 1 a0 a1 a2 a3 a4 S v S1) (h2 : fF 42 43 0 a0 a1 a2 a3 a4 S1 w S2) : RT S2 :=
  RTS.low R (fun c j hc => (h2.1.1 c j (by unfold fP; omega)).trans (h1.1.1 c j (by unfold fP; omega))) (h2.1.2.trans h1.1.2)
theorem RT_end {a v w : Int32} {S S1 S2 : ex_S} (R : R1 S) (RTS : RT S) (h1 : eE 17 1 a S v S1) (h2 : eE 43 0 a S1 w S2) : RT S2 :=
  RTS.low R (fun c j hc => (h2.1.1 c j (by omega)).trans (h1.1.1 c j (by omega))) (h2.1.2.trans h1.1.2)
theorem tofs (m k c j : Nat) : tnm m * (tlen m * k + c) + j = tnm m * tlen m * k + (tnm m * c + j) := by
  rw [Nat.mul_add, Nat.mul_assoc, Nat.add_assoc]
theorem tofs_lt {m c j : Nat} (hc : c < tlen m) (hj : j < tnm m) : tnm m * c + j < tnm m * tlen m := by
  have := Nat.mul_le_mul_left (tnm m) (Nat.succ_le_of_lt hc)
  rw [Nat.mul_succ] at this
  omega
/-- rows of texts there: row r is what row f was -/
def rowT (S S' : ex_S) (f r : Nat) : Prop := ∀ m, m < 4 → ∀ j, j < tnm m * tlen m → S'.1 (47 + m) (tnm m * tlen m * r + j) = S.1 (47 + m) (tnm m * tlen m * f + j)
theorem rowT.of {S S' : ex_S} {k : Nat} (h : ∀ c j, 47 ≤ c → c ≤ 50 → S'.1 c j = S.1 c j) : rowT S S' k k := fun m hm j _ => h _ _ (by omega) (by omega)
theorem rowT.trans {S T U : ex_S} {a b c : Nat} (x : rowT S T a b) (y : rowT T U b c) : rowT S U a c := fun m hm j hj => (y m hm j hj).trans (x m hm j hj)
theorem raC_T {a0 a1 : Int32} {S S' : ex_S} {f t : Nat} (h : raC a0 a1 S S') (e0 : a0 = Int32.ofNat f) (e1 : a1 = Int32.ofNat t) (hf : f ≤ 3) (ht : t ≤ 3) (hne : f ≠ t) (hB : ∀ i, sf_B (-128) 127 (S.1 42 i)) : rowT S S' f t ∧ ∀ r, r ≠ t → rowT S S' r r := by
  obtain ⟨_, _, _, _, _, g7, g8, g9, g10⟩ := h.2 f t e0 e1 hf ht hne hB
  constructor
  · intro m hm j hj
    match m, hm, hj with
    | 0, _, hj => exact (g7 _).trans (roi_at (w := 200) hj)
    | 1, _, hj => exact (g8 _).trans (roi_at (w := 39) hj)
    | 2, _, hj => exact (g9 _).trans (roi_at (w := 304) hj)
    | 3, _, hj => exact (g10 _).trans (roi_at (w := 50) hj)
    | m + 4, h, _ => exact absurd h (by omega)
  · intro r hr m hm j hj
    match m, hm, hj with
    | 0, _, hj => exact (g7 _).trans (roi_ne (w := 200) hj hr)
    | 1, _, hj => exact (g8 _).trans (roi_ne (w := 39) hj hr)
    | 2, _, hj => exact (g9 _).trans (roi_ne (w := 304) hj hr)
    | 3, _, hj => exact (g10 _).trans (roi_ne (w := 50) hj hr)
    | m + 4, h, _ => exact absurd h (by omega)
theorem eT.row {m : Nat} {S S' : ex_S} {b c k r : Nat} (hm : m < 4) (hc : c < tlen m) (h : eT m S b (tnm m * (tlen m * k + c))) (e : tsame m b S S') (w : rowT S S' k r) : eT m S' b (tnm m * (tlen m * r + c)) :=
  h.mv hm e (fun j hj => by rw [tofs, tofs]; exact w m hm _ (tofs_lt hc hj))
theorem RT_image {a v w : Int32} {S S1 S2 : ex_S} (R : R1 S) (RTS : RT S) (W : tW S) (h1 : ciC a S v S1) (h2 : riC a S1 w S2) (tk : tkeep S S1) : RT S2 := by
  by_cases ha : 0 ≤ a ∧ a ≤ 2
  · obtain ⟨hk, ea⟩ := k3_of ha
    obtain ⟨v1, t, t72, b1, l1, m1, z1, rf, lz, mz⟩ := ciC_img W h1 ha hk
    obtain ⟨w1, Sy, hy, e2⟩ := h2.2 ha
    have ea1 : a + 1 = Int32.ofNat (a.toNatClampNeg + 1) := by
      rw [← n32_s, ← ea]
    have B1 : ∀ i, sf_B (-128) 127 ((ex_sx S1 41 0 0).1 42 i) := fun i => by
      rw [ex_sx_ne (by omega), l1 42 i (by omega)]; exact R.2.2.2 i
    obtain ⟨_, _, _, y4, y5⟩ := raC_at hy (show (0 : Int32) = Int32.ofNat 0 from rfl) ea1 (by omega) (by omega) (by omega) B1
    obtain ⟨w1, w2⟩ := raC_T hy (show (0 : Int32) = Int32.ofNat 0 from rfl) ea1 (by omega) (by omega) (by omega) B1
    generalize a.toNatClampNeg = k at hk z1 m1 mz w1 w2 e2
    have c2 : ∀ c j, c < 41 ∨ 71 < c → S2.1 c j = S1.1 c j := fun c j hc => by
      rw [e2, ex_sx_ne (by omega), y4 c j (by omega), ex_sx_ne (by omega)]
    have p : ∀ {f r}, rowT (ex_sx S1 41 0 0) Sy f r → rowT S S2 f r := fun {f r} y => ((rowT.of (fun c j h1 h3 => by rw [ex_sx_ne (by omega), l1 c j (by omega)])).trans y).trans (rowT.of (fun c j h1 h3 => by rw [e2, ex_sx_ne (by omega)]))
    have z2 : S2.2 = S1.2 := by
      rw [e2]
      show Sy.2 = S1.2
      rw [y5]; rfl
    have ts : ∀ t k, isT S t k → ∀ m, m < 4 → ∀ c b, c < tlen m → S.2.2.1 (t + 2 + m) c = some b → 72 ≤ b → tsame m b S S2 := fun t k T m hm c b hc eb b72 c' h1 h2 => by
      obtain ⟨x1, x2, x3⟩ := tk t k T m hm c b hc eb b72 c' h1 h2
      exact ⟨(funext (fun j => c2 c' j (by omega))).trans x1, by rw [z2]; exact x2, by rw [z2]; exact x3⟩
    intro t' k' T m hm c hc hl
    rw [z2]
    rcases T with ⟨et, ek⟩ | ⟨i, hi, eb, ek⟩
    · subst et; subst ek
      rw [c2 (17 + 6) _ (by omega), l1 _ _ (by omega)] at hl
      obtain ⟨b, eb, b72, E⟩ := RTS 17 0 (Or.inl ⟨rfl, rfl⟩) m hm c hc hl
      exact ⟨b, (lz _ _ (by omega) (by omega)).trans eb, b72, E.row hm hc (ts 17 0 (Or.inl ⟨rfl, rfl⟩) m hm c b hc eb b72) (p (w2 0 (by omega)))⟩
    · rw [z2, z1] at eb
      by_cases q : i = k
      · rw [if_pos q] at eb
        cases eb
        subst ek
        rw [c2 (t + 6) _ (by omega), b1.2.2 m hm] at hl
        obtain ⟨b, eb, b72, E⟩ := RTS 17 0 (Or.inl ⟨rfl, rfl⟩) m hm c hc hl
        exact ⟨b, (rf m hm c hc).trans eb, b72, E.row hm hc (ts 17 0 (Or.inl ⟨rfl, rfl⟩) m hm c b hc eb b72) (p (by rw [q]; exact w1))⟩
      · rw [if_neg q] at eb
        obtain ⟨b72t, _⟩ := R.2.1 i t' hi eb
        have Ti : isT S t' k' := Or.inr ⟨i, hi, eb, ek⟩
        rw [c2 (t' + 6) _ (by omega), m1 i t' hi q eb _ _ (by omega) (by omega)] at hl
        obtain ⟨b, e3, b72, E⟩ := RTS t' k' Ti m hm c hc hl
        exact ⟨b, (mz i t' hi q eb _ _ (by omega) (by omega)).trans e3, b72, E.row hm hc (ts t' k' Ti m hm c b hc e3 b72) (p (w2 k' (by omega)))⟩
  · obtain ⟨v0, e1⟩ := h1.1 ha
    obtain ⟨w0, e2⟩ := h2.1 ha
    rw [e2, e1]
    exact RTS.low R (fun c j hc => ex_sx_ne (by omega)) rfl
theorem RT_again {a v w : Int32} {S S1 S2 : ex_S} (R : R1 S) (RTS : RT S) (W : tW S) (h1 : cgC a S v S1) (h2 : rgC a S1 w S2) (tk : tkeep S S1) : RT S2 := by
  obtain ⟨o17, top, im, ap⟩ := W
  by_cases ha : (0 ≤ a ∧ a ≤ 2) ∧ ¬ S.2.2.1 24 a.toNatClampNeg = none
  · obtain ⟨hk, ea⟩ := k3_of ha.1
    obtain ⟨v1, b0, eb0, h⟩ := h1.2 ha
    obtain ⟨b72, b7, ob⟩ := im _ b0 hk eb0
    obtain ⟨x1, x2, x3⟩ := tC_at h o17 ob (by unfold tD; omega)
    have k71 : ¬ S1.1 71 a.toNatClampNeg = 0 := by
      rw [x2 71 _ (by omega) (by omega) (by omega)]
      exact fun z => ha.2 ((R.2.2.1 _ hk).mpr z)
    obtain ⟨w1, hy⟩ := h2.2 ⟨ha.1, k71⟩
    have ea1 : a + 1 = Int32.ofNat (a.toNatClampNeg + 1) := by
      rw [← n32_s, ← ea]
    have B1 : ∀ i, sf_B (-128) 127 ((ex_sx S1 41 0 0).1 42 i) := fun i => by
      rw [ex_sx_ne (by omega), x2 42 i (by omega) (by omega) (by omega)]; exact R.2.2.2 i
    obtain ⟨_, _, _, y4, y5⟩ := raC_at hy ea1 (show (0 : Int32) = Int32.ofNat 0 from rfl) (by omega) (by omega) (by omega) B1
    obtain ⟨w1, w2⟩ := raC_T hy ea1 (show (0 : Int32) = Int32.ofNat 0 from rfl) (by omega) (by omega) (by omega) B1
    have T0 : isT S b0 (a.toNatClampNeg + 1) := Or.inr ⟨_, hk, eb0, rfl⟩
    generalize a.toNatClampNeg = k at hk w1 w2 T0 eb0
    have c2 : ∀ c j, c < 41 ∨ 50 < c → S2.1 c j = S1.1 c j := fun c j hc => by
      rw [y4 c j (by omega), ex_sx_ne (by omega)]
    have p : ∀ {f r}, rowT (ex_sx S1 41 0 0) S2 f r → rowT S S2 f r := fun {f r} y => (rowT.of (fun c j h1 h3 => by rw [ex_sx_ne (by omega), x2 c j (by omega) (by omega) (by omega)])).trans y
    have z2 : S2.2 = S1.2 := by
      rw [y5]; rfl
    have ts : ∀ t k, isT S t k → ∀ m, m < 4 → ∀ c b, c < tlen m → S.2.2.1 (t + 2 + m) c = some b → 72 ≤ b → tsame m b S S2 := fun t k T m hm c b hc eb b72 c' h1 h2 => by
      obtain ⟨y1, y2, y3⟩ := tk t k T m hm c b hc eb b72 c' h1 h2
      exact ⟨(funext (fun j => c2 c' j (by omega))).trans y1, by rw [z2]; exact y2, by rw [z2]; exact y3⟩
    intro t' k' T m hm c hc hl
    rw [z2]
    rcases T with ⟨et, ek⟩ | ⟨i, hi, eb, ek⟩
    · subst et; subst ek
      rw [c2 (17 + 6) _ (by omega), x1.2.2 m hm] at hl
      obtain ⟨b, e3, b72', E⟩ := RTS b0 (k + 1) T0 m hm c hc hl
      exact ⟨b, by rw [x3, tzz_in o17 hm hc]; exact e3, b72', E.row hm hc (ts b0 (k + 1) T0 m hm c b hc e3 b72') (p w1)⟩
    · rw [z2, x3, tzz_out (by omega) (by omega) (Or.inr rfl)] at eb
      have t72 := (im i t' hi eb).1
      have Ti : isT S t' k' := Or.inr ⟨i, hi, eb, ek⟩
      rw [c2 (t' + 6) _ (by omega), x2 _ _ (by omega) (by omega) (by omega)] at hl
      obtain ⟨b, e3, b72', E⟩ := RTS t' k' Ti m hm c hc hl
      exact ⟨b, by rw [x3, tzz_out (by omega) (by omega) (Or.inr rfl)]; exact e3, b72', E.row hm hc (ts t' k' Ti m hm c b hc e3 b72') (p (w2 k' (by omega)))⟩
  · obtain ⟨v0, e1⟩ := h1.1 ha
    have ha' : ¬ ((0 ≤ a ∧ a ≤ 2) ∧ ¬ S1.1 71 a.toNatClampNeg = 0) := by
      rw [e1]
      intro z
      exact ha ⟨z.1, fun y => z.2 ((R.2.2.1 _ (k3_of z.1).1).mp y)⟩
    obtain ⟨w0, e2⟩ := h2.1 ha'
    rw [e2, e1]
    exact RTS.low R (fun c j hc => ex_sx_ne (by omega)) rfl
