/-! TEXT keeps what both sides were told the same -/
theorem most_eq {s : Int32} (h0 : 0 ≤ s) (h3 : s ≤ 3) : ex_st 1 s.toNatClampNeg = vf176 s := by
  obtain ⟨l, e⟩ := s4_of ⟨h0, h3⟩
  generalize hk : s.toNatClampNeg = k at l e
  rw [e]
  match k, l with
  | 0, _ => rfl
  | 1, _ => rfl
  | 2, _ => rfl
  | 3, _ => rfl
  | k + 4, h => exact absurd h (by omega)
theorem R_text {s a v w : Int32} {S S1 S2 : ex_S} {n : Nat} (e : S.1 17 1 = Int32.ofNat n) (q : cq11 S n) (R : R1 S) (h1 : cxC s a S v S1) (k1 : ∀ c j, 41 ≤ c → c < 72 → S1.1 c j = S.1 c j) (z1 : ∀ i, S1.2.2.1 24 i = S.2.2.1 24 i) (i1 : ∀ i b, i < 3 → S.2.2.1 24 i = some b → ∀ c j, b ≤ c → c < b + 7 → S1.1 c j = S.1 c j) (rq : rxq S1 n) (h2 : rxC s a S1 w S2) (k2 : ∀ c j, c < 41 ∨ 71 < c → S2.1 c j = S1.1 c j) (z2 : ∀ i, S2.2.2.1 24 i = S1.2.2.1 24 i) : v = w ∧ R1 S2 := by
  obtain ⟨t1, s1, g1⟩ := h1
  obtain ⟨t2, s2, g2⟩ := h2
  obtain ⟨o2, g2⟩ := g2 n rq
  have g1 := g1 n e q
  have e42 : ∀ j, S1.1 42 j = S.1 42 j := fun j => k1 42 j (by omega) (by omega)
  have eA : ps_text s (S1.1 42) n = ps_text s (S.1 18) n := by
    refine cg_text (fun j hj => ?_) s
    have z := R.1.1 j (by have := q.1; omega)
    rw [show 600 * 0 + j = j by omega] at z
    rw [e42]; exact z.symm
  rw [eA] at g2
  generalize ps_text s (S.1 18) n = A at g1 g2
  have c0 : ∀ k, k < 4 → S1.1 46 k = S.1 23 k := fun k hk => by
    have z := R.1.2.2 k hk
    rw [show 4 * 0 + k = k by omega] at z
    rw [k1 46 k (by omega) (by omega)]; exact z.symm
  have fin : S1.1 17 2 = S2.1 44 0 → S1.1 17 3 = S2.1 45 0 → (∀ k, k < 4 → S1.1 23 k = S2.1 46 k) → R1 S2 := by
    intro hf hp hc
    refine ⟨⟨fun j hj => ?_, fun j j1 j3 => ?_, fun x hx => ?_⟩, fun i b hi eb => ?_, fun i hi => ?_, fun i => ?_⟩
    · rw [k2 (17 + 1) j (by omega), t1, t2, e42]; exact R.1.1 j hj
    · rw [k2 17 j (by omega)]
      rcases (show j = 1 ∨ j = 2 ∨ j = 3 by omega) with rfl | rfl | rfl
      · exact s1.trans s2.symm
      · exact hf
      · exact hp
    · rw [k2 (17 + 6) x (by omega), show 4 * 0 + x = x by omega]; exact hc x hx
    · rw [z2, z1] at eb
      obtain ⟨b72, te⟩ := R.2.1 i b hi eb
      refine ⟨b72, te.mk' (blkEq.of (fun c j c1 c2 => (k2 c j (by omega)).trans (i1 i b hi eb c j c1 c2))) ⟨fun j _ => (t2 _).trans (e42 _), fun j j1 j3 => ?_, fun s _ => (o2.2.1 _ (by omega)).trans (k1 46 _ (by omega) (by omega))⟩⟩
      have o := o2.1 (i + 1) (by omega)
      refine Eq.trans ?_ (k1 (42 + j) (i + 1) (by omega) (by omega))
      rcases (show j = 1 ∨ j = 2 ∨ j = 3 by omega) with rfl | rfl | rfl
      · exact o.1
      · exact o.2.1
      · exact o.2.2
    · rw [z2, z1, o2.2.2, k1 71 i (by omega) (by omega)]; exact R.2.2.1 i hi
    · rw [t2, e42]; exact R.2.2.2 i
  have ok : txok s a (S.1 23 s.toNatClampNeg) (ex_st 1 s.toNatClampNeg) ↔ txok s a (S1.1 46 s.toNatClampNeg) (vf176 s) := by
    constructor
    · intro z
      have l := (s4_of ⟨z.1, z.2.1⟩).1
      rw [c0 _ l, ← most_eq z.1 z.2.1]; exact z
    · intro z
      have l := (s4_of ⟨z.1, z.2.1⟩).1
      rw [← c0 _ l, most_eq z.1 z.2.1]; exact z
  by_cases y : txok s a (S.1 23 s.toNatClampNeg) (ex_st 1 s.toNatClampNeg)
  · have l := (s4_of ⟨y.1, y.2.1⟩).1
    obtain ⟨f1, p1, n1, y1⟩ := g1.2 y
    obtain ⟨f2, p2, n2, y2⟩ := g2.2 (ok.mp y)
    by_cases pz : pf A = 0
    · obtain ⟨v1, c1⟩ := y1 pz
      obtain ⟨w1, c2⟩ := y2 pz
      refine ⟨v1.trans (Eq.trans ?_ w1.symm), fin (f1.trans f2.symm) (p1.trans p2.symm) (fun k hk => (c1 k hk).trans (Eq.trans ?_ (c2 k hk).symm))⟩
      · show (if a = -1 then S.1 23 s.toNatClampNeg else a) = if a = -1 then S1.1 46 s.toNatClampNeg else a
        rw [c0 _ l]
      · show (if a = -1 ∧ k = s.toNatClampNeg then S.1 23 s.toNatClampNeg + 1 else S.1 23 k) = if a = -1 ∧ k = s.toNatClampNeg then S1.1 46 s.toNatClampNeg + 1 else S1.1 46 k
        rw [c0 _ l, c0 k hk]
    · obtain ⟨v1, c1⟩ := n1 pz
      obtain ⟨w1, c2⟩ := n2 pz
      exact ⟨v1.trans w1.symm, fin (f1.trans f2.symm) (p1.trans p2.symm) (fun k hk => (c1 k hk).trans ((c0 k hk).symm.trans (c2 k hk).symm))⟩
  · obtain ⟨v1, f1, p1, c1⟩ := g1.1 y
    obtain ⟨w1, f2, p2, c2⟩ := g2.1 (fun z => y (ok.mpr z))
    exact ⟨v1.trans w1.symm, fin (f1.trans f2.symm) (p1.trans p2.symm) (fun k hk => (c1 k hk).trans ((c0 k hk).symm.trans (c2 k hk).symm))⟩
/-! IMAGE and AGAIN keep it -/
/-- the fixed object and the images: each with its arrays behind it, apart -/
def tW (S : ex_S) : Prop := tO S 17 ∧ 72 ≤ S.2.2.2.2 ∧ (∀ i b, i < 3 → S.2.2.1 24 i = some b → 72 ≤ b ∧ b + 7 ≤ S.2.2.2.2 ∧ tO S b) ∧ ∀ i k b c, i < 3 → k < 3 → i ≠ k → S.2.2.1 24 i = some b → S.2.2.1 24 k = some c → tD b c
/-- texts that a names, t names too -/
def refEq (S S' : ex_S) (a t : Nat) : Prop := ∀ m, m < 4 → ∀ c, c < tlen m → S'.2.2.1 (t + 2 + m) c = S.2.2.1 (a + 2 + m) c
theorem tzz_in {S : ex_S} {t a m c : Nat} (ot : tO S t) (hm : m < 4) (hc : c < tlen m) : tzz S t a 4 0 (t + 2 + m) c = S.2.2.1 (a + 2 + m) c := by
  unfold tzz
  rw [if_pos (Or.inl ⟨by omega, by omega, by rw [(ot.2.2 m hm).2]; exact hc⟩), show a + (t + 2 + m - t) = a + 2 + m by omega]
theorem tC_at {t a : Nat} {S S' : ex_S} (h : tC t a S S') (ot : tO S t) (oa : tO S a) (d : tD t a) : blkEq S S' a t ∧ (∀ c j, c ≠ t → c ≠ t + 1 → c ≠ t + 6 → S'.1 c j = S.1 c j) ∧ ∀ c j, S'.2.2.1 c j = tzz S t a 4 0 c j := by
  obtain ⟨h1, h2, h3, h4⟩ := h ot oa d
  refine ⟨⟨fun j hj => ?_, fun j j1 j3 => ?_, fun s hs => ?_⟩, fun c j c1 c2 c3 => ?_, h4⟩
  · rw [h1, if_pos ⟨rfl, hj⟩]
  · rw [h1, if_neg (fun z => by omega), if_pos ⟨rfl, j1, j3⟩]
  · rw [h1, if_neg (fun z => by omega), if_neg (fun z => by omega), if_pos ⟨rfl, hs⟩]
  · rw [h1, if_neg (fun z => c2 z.1), if_neg (fun z => c1 z.1), if_neg (fun z => c3 z.1)]
/-- the class's image, where one is made -/
theorem ciC_img {a v : Int32} {S S1 : ex_S} (W : tW S) (h : ciC a S v S1) (ha : 0 ≤ a ∧ a ≤ 2) (hk : a.toNatClampNeg < 3) : v = 1 ∧ ∃ t, 72 ≤ t ∧ blkEq S S1 17 t ∧ (∀ c j, c < 72 → S1.1 c j = S.1 c j) ∧ (∀ i b, i < 3 → i ≠ a.toNatClampNeg → S.2.2.1 24 i = some b → ∀ c j, b ≤ c → c < b + 7 → S1.1 c j = S.1 c j) ∧ (∀ j, S1.2.2.1 24 j = if j = a.toNatClampNeg then some t else S.2.2.1 24 j) ∧ refEq S S1 17 t ∧ (∀ c j, c < 72 → c ≠ 24 → S1.2.2.1 c j = S.2.2.1 c j) ∧ ∀ i b, i < 3 → i ≠ a.toNatClampNeg → S.2.2.1 24 i = some b → ∀ c j, b ≤ c → c < b + 7 → S1.2.2.1 c j = S.2.2.1 c j := by
  obtain ⟨o17, top, im, ap⟩ := W
  obtain ⟨v1, h⟩ := h.2 ha
  refine ⟨v1, ?_⟩
  generalize a.toNatClampNeg = k at h hk
  rcases h with ⟨b, eb, h⟩ | ⟨eb, Sx, hN, h⟩
  · obtain ⟨b72, b7, ob⟩ := im k b hk eb
    obtain ⟨x1, x2, x3⟩ := tC_at h ob o17 (by unfold tD; omega)
    refine ⟨b, b72, x1, fun c j hc => x2 c j (by omega) (by omega) (by omega), fun i b' hi hne eb' c j c1 c2 => ?_, fun j => ?_, fun m hm c hc => ?_, fun c j hc h24 => ?_, fun i b' hi hne eb' c j c1 c2 => ?_⟩
    · have d := ap i k b' b hi hk hne eb' eb
      unfold tD at d
      exact x2 c j (by omega) (by omega) (by omega)
    · rw [x3, tzz_out (by omega) (by omega) (Or.inr rfl)]
      by_cases q : j = k
      · rw [if_pos q, q, eb]
      · rw [if_neg q]
    · rw [x3, tzz_in ob hm hc]
    · rw [x3, tzz_out (by omega) (by omega) (Or.inr rfl)]
    · have d := ap i k b' b hi hk hne eb' eb
      unfold tD at d
      rw [x3, tzz_out (by omega) (by omega) (Or.inr rfl)]
  · obtain ⟨oN, tN', kN⟩ := hN (show S.2.2.2.2 + 1 = (ex_new S 0).2.2.2.2 from rfl)
    generalize et : S.2.2.2.2 = t at h oN tN' kN top im
    have low : ∀ c j, c < t → Sx.1 c j = S.1 c j := fun c j hc => by
      refine (kN c j hc).1.trans ?_
      show (if c = S.2.2.2.2 then 0 else S.1 c j) = S.1 c j
      rw [if_neg (by omega)]
    have lowz : ∀ c j, c < t → Sx.2.2.1 c j = S.2.2.1 c j := fun c j hc => by
      refine (kN c j hc).2.2.1.trans ?_
      show (if c = S.2.2.2.2 then none else S.2.2.1 c j) = S.2.2.1 c j
      rw [if_neg (by omega)]
    have lowl : ∀ c, c < t → Sx.2.2.2.1 c = S.2.2.2.1 c := fun c hc => by
      refine (kN c 0 hc).2.2.2.trans ?_
      show (if c = S.2.2.2.2 then 0 else S.2.2.2.1 c) = S.2.2.2.1 c
      rw [if_neg (by omega)]
    have uz : ∀ c j, ¬ c = 24 → (ex_sz Sx 24 k (some t)).2.2.1 c j = Sx.2.2.1 c j := fun c j hc => by
      rw [ex_sz_at, if_neg (fun z => hc z.1)]
    have ot : tO (ex_sz Sx 24 k (some t)) t := ⟨(uz t 0 (by omega)).trans oN.1, (uz t 8 (by omega)).trans oN.2.1, fun m hm => ⟨(uz t _ (by omega)).trans (oN.2.2 m hm).1, (oN.2.2 m hm).2⟩⟩
    have o17' : tO (ex_sz Sx 24 k (some t)) 17 := ⟨((uz 17 0 (by omega)).trans (lowz 17 0 (by omega))).trans o17.1, ((uz 17 8 (by omega)).trans (lowz 17 8 (by omega))).trans o17.2.1, fun m hm => ⟨((uz 17 _ (by omega)).trans (lowz 17 _ (by omega))).trans (o17.2.2 m hm).1, (lowl (17 + 2 + m) (by omega)).trans (o17.2.2 m hm).2⟩⟩
    obtain ⟨x1, x2, x3⟩ := tC_at h ot o17' (by unfold tD; omega)
    refine ⟨t, top, ⟨fun j hj => (x1.1 j hj).trans (low _ _ (by omega)), fun j j1 j3 => (x1.2.1 j j1 j3).trans (low _ _ (by omega)), fun s hs => (x1.2.2 s hs).trans (low _ _ (by omega))⟩, fun c j hc => (x2 c j (by omega) (by omega) (by omega)).trans (low c j (by omega)), fun i b' hi hne eb' c j c1 c2 => ?_, fun j => ?_, fun m hm c hc => ?_, fun c j hc h24 => ?_, fun i b' hi hne eb' c j c1 c2 => ?_⟩
    · have := (im i b' hi eb').2.1
      exact (x2 c j (by omega) (by omega) (by omega)).trans (low c j (by omega))
    · rw [x3, tzz_out (by omega) (by omega) (Or.inr rfl), ex_sz_at, lowz 24 j (by omega)]
      by_cases q : j = k
      · rw [if_pos ⟨rfl, q⟩, if_pos q]
      · rw [if_neg (fun z => q z.2), if_neg q]
    · rw [x3, tzz_in ot hm hc, uz _ _ (by omega), lowz _ _ (by omega)]
    · rw [x3, tzz_out (by omega) (by omega) (Or.inr rfl), uz c j h24, lowz c j (by omega)]
    · have := (im i b' hi eb').2.1
      have b72' := (im i b' hi eb').1
      rw [x3, tzz_out (by omega) (by omega) (Or.inr rfl), uz c j (by omega), lowz c j (by omega)]
theorem roi_at {T : Nat → Int32} {w f t i : Nat} (hi : i < w) : roi T w f t w (w * t + i) = T (w * f + i) := by
  unfold roi
  rw [if_pos ⟨by omega, by omega⟩, show w * t + i - w * t = i by omega]
theorem roi_ne {T : Nat → Int32} {w f t r i : Nat} (hi : i < w) (hne : r ≠ t) : roi T w f t w (w * r + i) = T (w * r + i) := by
  unfold roi
  rcases ro_dis hi hne with z | z
  · rw [if_neg (fun y => by omega)]
  · rw [if_neg (fun y => by omega)]
theorem roi_B {T : Nat → Int32} {w f t j : Nat} (h : ∀ j, sf_B (-128) 127 (T j)) : sf_B (-128) 127 (roi T w f t w j) := by
  unfold roi
  split
  · exact h _
  · exact h _
/-- the reference's copy of a row -/
theorem raC_at {a0 a1 : Int32} {S S' : ex_S} {f t : Nat} (h : raC a0 a1 S S') (e0 : a0 = Int32.ofNat f) (e1 : a1 = Int32.ofNat t) (hf : f ≤ 3) (ht : t ≤ 3) (hne : f ≠ t) (hB : ∀ i, sf_B (-128) 127 (S.1 42 i)) : rowEq S S' f t ∧ (∀ r, r ≠ t → rowEq S S' r r) ∧ (∀ i, sf_B (-128) 127 (S'.1 42 i)) ∧ (∀ c j, c < 42 ∨ 50 < c → S'.1 c j = S.1 c j) ∧ S'.2 = S.2 := by
  obtain ⟨F, g⟩ := h
  obtain ⟨g2, g3, g4, g5, g6, _⟩ := g f t e0 e1 hf ht hne hB
  refine ⟨⟨fun j hj => ?_, fun j j1 j3 => ?_, fun s hs => ?_⟩, fun r hr => ⟨fun j hj => ?_, fun j j1 j3 => ?_, fun s hs => ?_⟩, fun i => ?_, fun c j hc => F.1 c j (by unfold raP; omega), F.2⟩
  · rw [g2, roi_at hj]
  · rcases (show j = 1 ∨ j = 2 ∨ j = 3 by omega) with rfl | rfl | rfl
    · have z := roi_at (T := S.1 43) (w := 1) (f := f) (t := t) (i := 0) (by omega)
      rw [show 1 * t + 0 = t by omega, show 1 * f + 0 = f by omega] at z
      exact (g3 t).trans z
    · have z := roi_at (T := S.1 44) (w := 1) (f := f) (t := t) (i := 0) (by omega)
      rw [show 1 * t + 0 = t by omega, show 1 * f + 0 = f by omega] at z
      exact (g4 t).trans z
    · have z := roi_at (T := S.1 45) (w := 1) (f := f) (t := t) (i := 0) (by omega)
      rw [show 1 * t + 0 = t by omega, show 1 * f + 0 = f by omega] at z
      exact (g5 t).trans z
  · rw [g6, roi_at hs]
  · rw [g2, roi_ne hj hr]
  · rcases (show j = 1 ∨ j = 2 ∨ j = 3 by omega) with rfl | rfl | rfl
    · have z := roi_ne (T := S.1 43) (w := 1) (f := f) (t := t) (r := r) (i := 0) (by omega) hr
      rw [show 1 * r + 0 = r by omega] at z
      exact (g3 r).trans z
    · have z := roi_ne (T := S.1 44) (w := 1) (f := f) (t := t) (r := r) (i := 0) (by omega) hr
      rw [show 1 * r + 0 = r by omega] at z
      exact (g4 r).trans z
    · have z := roi_ne (T := S.1 45) (w := 1) (f := f) (t := t) (r := r) (i := 0) (by omega) hr
      rw [show 1 * r + 0 = r by omega] at z
      exact (g5 r).trans z
  · rw [g6, roi_ne hs hr]
  · rw [g2]; exact roi_B hB
theorem R1_41 {S : ex_S} {v : Int32} (R : R1 S) : R1 (ex_sx S 41 0 v) := R.keep (fun c j hc => ex_sx_ne (by omega)) (fun _ => rfl) (fun i b hi eb c j c1 c2 => ex_sx_ne (by have := (R.2.1 i b hi eb).1; omega))
theorem k3_of {a : Int32} (ha : 0 ≤ a ∧ a ≤ 2) : a.toNatClampNeg < 3 ∧ a = Int32.ofNat a.toNatClampNeg := by
  have h1 := Int32.le_iff_toInt_le.mp ha.1
  have h2 := Int32.le_iff_toInt_le.mp ha.2
  have e0 : (0 : Int32).toInt = 0 := rfl
  have e2 : (2 : Int32).toInt = 2 := rfl
  rw [e0] at h1; rw [e2] at h2
  have e : a.toNatClampNeg = a.toInt.toNat := rfl
  have l : a.toNatClampNeg < 3 := by omega
  refine ⟨l, ?_⟩
  apply Int32.toInt_inj.mp
  rw [n32_i (by omega)]
  omega
theorem R_image {a v w : Int32} {S S1 S2 : ex_S} (R : R1 S) (W : tW S) (h1 : ciC a S v S1) (h2 : riC a S1 w S2) : v = w ∧ R1 S2 := by
  by_cases ha : 0 ≤ a ∧ a ≤ 2
  · obtain ⟨hk, ea⟩ := k3_of ha
    obtain ⟨v1, t, t72, b1, l1, m1, z1, _⟩ := ciC_img W h1 ha hk
    obtain ⟨w1, Sy, hy, e2⟩ := h2.2 ha
    have ea1 : a + 1 = Int32.ofNat (a.toNatClampNeg + 1) := by
      rw [← n32_s, ← ea]
    have B1 : ∀ i, sf_B (-128) 127 ((ex_sx S1 41 0 0).1 42 i) := fun i => by
      rw [ex_sx_ne (by omega), l1 42 i (by omega)]; exact R.2.2.2 i
    obtain ⟨y1, y2, y3, y4, y5⟩ := raC_at hy (show (0 : Int32) = Int32.ofNat 0 from rfl) ea1 (by omega) (by omega) (by omega) B1
    generalize a.toNatClampNeg = k at hk z1 m1 y1 y2 e2
    have c2 : ∀ c j, c < 41 ∨ 71 < c → S2.1 c j = S1.1 c j := fun c j hc => by
      rw [e2, ex_sx_ne (by omega), y4 c j (by omega), ex_sx_ne (by omega)]
    have r2 : ∀ c j, 42 ≤ c → c ≤ 46 → S2.1 c j = Sy.1 c j := fun c j h1 h3 => by
      rw [e2, ex_sx_ne (by omega)]
    have r1 : ∀ c j, 42 ≤ c → c ≤ 46 → (ex_sx S1 41 0 0).1 c j = S.1 c j := fun c j h1 h3 => by
      rw [ex_sx_ne (by omega), l1 c j (by omega)]
    have p1 : ∀ {f r}, rowEq (ex_sx S1 41 0 0) Sy f r → rowEq S S2 f r := fun {f r} y => (((rowEq.of r1).trans y).trans (rowEq.of r2))
    have z2 : ∀ j, S2.2.2.1 24 j = S1.2.2.1 24 j := fun j => by
      rw [e2]
      show Sy.2.2.1 24 j = _
      rw [y5]; rfl
    have q71 : ∀ j, S2.1 71 j = if j = k then 1 else S.1 71 j := fun j => by
      rw [e2, ex_sx_at]
      by_cases q : j = k
      · rw [if_pos ⟨rfl, q⟩, if_pos q]
      · rw [if_neg (fun z => q z.2), if_neg q, y4 71 j (by omega), ex_sx_ne (by omega), l1 71 j (by omega)]
    refine ⟨v1.trans w1.symm, R.1.mk' (blkEq.of (fun c j c1 c3 => (c2 c j (by omega)).trans (l1 c j (by omega)))) (p1 (y2 0 (by omega))), fun i b hi eb => ?_, fun i hi => ?_, fun i => ?_⟩
    · rw [z2, z1] at eb
      by_cases q : i = k
      · rw [if_pos q] at eb
        cases eb
        subst q
        exact ⟨t72, R.1.mk' (b1.trans (blkEq.of (fun c j c1 _ => c2 c j (by omega)))) (p1 y1)⟩
      · rw [if_neg q] at eb
        obtain ⟨b72, te⟩ := R.2.1 i b hi eb
        exact ⟨b72, te.mk' (blkEq.of (fun c j c1 c3 => (c2 c j (by omega)).trans (m1 i b hi q eb c j c1 c3))) (p1 (y2 (i + 1) (by omega)))⟩
    · rw [z2, z1, q71]
      by_cases q : i = k
      · rw [if_pos q, if_pos q]
        exact Iff.intro (fun z => absurd z (Option.some_ne_none t)) (fun z => absurd z (show ¬ ((1 : Int32) = 0) by decide))
      · rw [if_neg q, if_neg q]; exact R.2.2.1 i hi
    · rw [r2 42 i (by omega) (by omega)]; exact y3 i
  · obtain ⟨v0, e1⟩ := h1.1 ha
    obtain ⟨w0, e2⟩ := h2.1 ha
    refine ⟨v0.trans w0.symm, ?_⟩
    rw [e2, e1]
    exact R1_41 R
theorem R_again {a v w : Int32} {S S1 S2 : ex_S} (R : R1 S) (W : tW S) (h1 : cgC a S v S1) (h2 : rgC a S1 w S2) : v = w ∧ R1 S2 := by
  obtain ⟨o17, top, im, ap⟩ := W
  by_cases ha : (0 ≤ a ∧ a ≤ 2) ∧ ¬ S.2.2.1 24 a.toNatClampNeg = none
  · obtain ⟨hk, ea⟩ := k3_of ha.1
    obtain ⟨v1, b, eb, h⟩ := h1.2 ha
    obtain ⟨b72, b7, ob⟩ := im _ b hk eb
    obtain ⟨x1, x2, x3⟩ := tC_at h o17 ob (by unfold tD; omega)
    have k71 : ¬ S1.1 71 a.toNatClampNeg = 0 := by
      rw [x2 71 _ (by omega) (by omega) (by omega)]
      exact fun z => ha.2 ((R.2.2.1 _ hk).mpr z)
    obtain ⟨w1, hy⟩ := h2.2 ⟨ha.1, k71⟩
    have ea1 : a + 1 = Int32.ofNat (a.toNatClampNeg + 1) := by
      rw [← n32_s, ← ea]
    have B1 : ∀ i, sf_B (-128) 127 ((ex_sx S1 41 0 0).1 42 i) := fun i => by
      rw [ex_sx_ne (by omega), x2 42 i (by omega) (by omega) (by omega)]; exact R.2.2.2 i
    obtain ⟨y1, y2, y3, y4, y5⟩ := raC_at hy ea1 (show (0 : Int32) = Int32.ofNat 0 from rfl) (by omega) (by omega) (by omega) B1
    have te := (R.2.1 _ b hk eb).2
    generalize a.toNatClampNeg = k at hk y1 y2 te
    have c2 : ∀ c j, c < 41 ∨ 50 < c → S2.1 c j = S1.1 c j := fun c j hc => by
      rw [y4 c j (by omega), ex_sx_ne (by omega)]
    have r1 : ∀ c j, 42 ≤ c → c ≤ 46 → (ex_sx S1 41 0 0).1 c j = S.1 c j := fun c j h1 h3 => by
      rw [ex_sx_ne (by omega), x2 c j (by omega) (by omega) (by omega)]
    have p1 : ∀ {f r}, rowEq (ex_sx S1 41 0 0) S2 f r → rowEq S S2 f r := fun {f r} y => (rowEq.of r1).trans y
    have z2 : ∀ j, S2.2.2.1 24 j = S.2.2.1 24 j := fun j => by
      rw [y5]
      show S1.2.2.1 24 j = _
      rw [x3, tzz_out (by omega) (by omega) (Or.inr rfl)]
    refine ⟨v1.trans w1.symm, te.mk' (x1.trans (blkEq.of (fun c j c1 c3 => c2 c j (by omega)))) (p1 y1), fun i b' hi eb' => ?_, fun i hi => ?_, y3⟩
    · rw [z2] at eb'
      obtain ⟨b72', te'⟩ := R.2.1 i b' hi eb'
      exact ⟨b72', te'.mk' (blkEq.of (fun c j c1 c3 => (c2 c j (by omega)).trans (x2 c j (by omega) (by omega) (by omega)))) (p1 (y2 (i + 1) (by omega)))⟩
    · rw [z2, c2 71 i (by omega), x2 71 i (by omega) (by omega) (by omega)]; exact R.2.2.1 i hi
  · obtain ⟨v0, e1⟩ := h1.1 ha
    have ha' : ¬ ((0 ≤ a ∧ a ≤ 2) ∧ ¬ S1.1 71 a.toNatClampNeg = 0) := by
      rw [e1]
      intro z
      exact ha ⟨z.1, fun y => z.2 ((R.2.2.1 _ (k3_of z.1).1).mp y)⟩
    obtain ⟨w0, e2⟩ := h2.1 ha'
    refine ⟨v0.trans w0.symm, ?_⟩
    rw [e2, e1]
    exact R1_41 R
/-! FAULT and COUNT answer alike -/
theorem R_fault {a v w : Int32} {S S1 S2 : ex_S} (R : R1 S) (h1 : qF (fun S => S.1 17 2) (fun S => S.1 17 3) a S v S1) (h2 : qF (fun S => S.1 44 0) (fun S => S.1 45 0) a S1 w S2) : v = w := by
  have e2 : S1.1 44 0 = S.1 17 2 := (h1.1.1 44 0 (by omega)).trans (R.1.2.1 2 (by omega) (by omega)).symm
  have e3 : S1.1 45 0 = S.1 17 3 := (h1.1.1 45 0 (by omega)).trans (R.1.2.1 3 (by omega) (by omega)).symm
  refine h1.2.trans (Eq.trans ?_ h2.2.symm)
  show (if a = 0 then S.1 17 2 else if a = 1 then S.1 17 3 else -1) = if a = 0 then S1.1 44 0 else if a = 1 then S1.1 45 0 else -1
  rw [e2, e3]
theorem R_count {a v w : Int32} {S S1 S2 : ex_S} (R : R1 S) (h1 : qC 23 a S v S1) (h2 : qC 46 a S1 w S2) : v = w := by
  refine h1.2.trans (Eq.trans ?_ h2.2.symm)
  by_cases q : 0 ≤ a ∧ a ≤ 3
  · rw [if_pos q, if_pos q, h1.1.1 46 _ (by omega)]
    have z := R.1.2.2 _ (s4_of q).1
    rw [show 4 * 0 + a.toNatClampNeg = a.toNatClampNeg by omega] at z
    exact z
  · rw [if_neg q, if_neg q]
