section
/-! FEED, END, FAULT, COUNT: both sides -/
/-- a number's byte -/
def fb (a x : Int32) : Int32 := ((a >>> (x &&& 31)).toInt8.toInt32).toInt8.toInt32
def fxs (i : Nat) : Int32 := if i = 0 then 24 else if i = 1 then 16 else if i = 2 then 8 else if i = 3 then 0 else -8
theorem fxs_s : ∀ i, i < 4 → fxs i + (-8) = fxs (i + 1) := by decide
theorem fxs_nn : ∀ i, i < 4 → ¬ fxs i < 0 := by decide
theorem fb_bv (a : BitVec 32) (k : Nat) (hk : k ≤ 24) : (a >>> k).signExtend 8 = (a.sshiftRight k).signExtend 8 := by
  apply BitVec.eq_of_getLsbD_eq
  intro i hi
  rw [BitVec.getLsbD_signExtend, BitVec.getLsbD_signExtend, BitVec.getLsbD_ushiftRight, BitVec.getLsbD_sshiftRight, if_pos (show i < 32 by omega), if_pos (show i < 32 by omega), if_pos (show k + i < 32 by omega), decide_eq_false (show ¬ 32 ≤ i by omega)]
  simp
theorem fb_u (a : Int32) : ∀ i, i < 4 → (((a.toUInt32 >>> ((fxs i).toUInt32 &&& Int32.toUInt32 31)).toInt32).toInt8.toInt32).toInt8.toInt32 = fb a (fxs i) := by
  have key : ∀ (x : Int32) (k : Nat), k ≤ 24 → (x.toUInt32 &&& Int32.toUInt32 31) = UInt32.ofNat k → (x &&& 31) = Int32.ofNat k → (((a.toUInt32 >>> (x.toUInt32 &&& Int32.toUInt32 31)).toInt32).toInt8.toInt32).toInt8.toInt32 = fb a x := by
    intro x k hk e1 e2
    unfold fb
    rw [e1, e2]
    have e : ((a.toUInt32 >>> UInt32.ofNat k).toInt32).toInt8 = (a >>> Int32.ofNat k).toInt8 := by
      apply Int8.toBitVec_inj.mp
      have m : k % 32 = k := Nat.mod_eq_of_lt (by omega)
      have l : (a.toUInt32 >>> UInt32.ofNat k).toInt32.toBitVec = a.toBitVec >>> k := by
        show (a.toUInt32 >>> UInt32.ofNat k).toBitVec = a.toBitVec >>> k
        rw [UInt32.toBitVec_shiftRight]
        have hk2 : ∀ k, k ≤ 24 → ((UInt32.ofNat k).toBitVec % 32) = BitVec.ofNat 32 k := by decide
        rw [hk2 k hk]
        show a.toBitVec >>> (BitVec.ofNat 32 k).toNat = a.toBitVec >>> k
        rw [BitVec.toNat_ofNat, Nat.mod_eq_of_lt (by omega)]
      have r : (a >>> Int32.ofNat k).toBitVec = a.toBitVec.sshiftRight k := by
        rw [Int32.toBitVec_shiftRight, BitVec.sshiftRight_eq']
        have : ((Int32.ofNat k).toBitVec.smod 32).toNat = k := by
          have hk' : ∀ k, k ≤ 24 → ((Int32.ofNat k).toBitVec.smod 32).toNat = k := by decide
          exact hk' k hk
        rw [this]
      rw [Int32.toBitVec_toInt8, Int32.toBitVec_toInt8, l, r]
      exact fb_bv _ k hk
    rw [e]
  intro i hi
  match i, hi with
  | 0, _ => exact key 24 24 (by decide) (by decide) (by decide)
  | 1, _ => exact key 16 16 (by decide) (by decide) (by decide)
  | 2, _ => exact key 8 8 (by decide) (by decide) (by decide)
  | 3, _ => exact key 0 0 (by decide) (by decide) (by decide)
  | i + 4, h => exact absurd h (by omega)
/-- a tape with i bytes of a number at n -/
def fwi (T : Nat → Int32) (n : Nat) (a : Int32) (i j : Nat) : Int32 := if n ≤ j ∧ j < n + i then fb a (fxs (j - n)) else T j
theorem fwi_0 (T : Nat → Int32) (n : Nat) (a : Int32) (j : Nat) : fwi T n a 0 j = T j := by
  unfold fwi
  rw [if_neg (fun z => by omega)]
theorem fwi_s (T : Nat → Int32) (n : Nat) (a : Int32) (i j : Nat) : fwi T n a (i + 1) j = if j = n + i then fb a (fxs i) else fwi T n a i j := by
  unfold fwi
  by_cases e : j = n + i
  · rw [if_pos e, if_pos (show n ≤ j ∧ j < n + (i + 1) from ⟨by omega, by omega⟩), show j - n = i by omega]
  · rw [if_neg e]
    by_cases q : n ≤ j ∧ j < n + i
    · rw [if_pos q, if_pos (show n ≤ j ∧ j < n + (i + 1) from ⟨q.1, by omega⟩)]
    · rw [if_neg q, if_neg (show ¬ (n ≤ j ∧ j < n + (i + 1)) from fun z => q ⟨z.1, by omega⟩)]
theorem fwi_cg {T U : Nat → Int32} {n : Nat} {a : Int32} {i j : Nat} (h : T j = U j) : fwi T n a i j = fwi U n a i j := by
  unfold fwi
  rw [h]
def fP (tp ob fl : Nat) (c k : Nat) : Prop := c = tp ∨ (c = ob ∧ k = fl)
def fI (tp ob fl : Nat) (a : Int32) (S : ex_S) (x : Int32) (T : ex_S) : Prop := ex_fx (fP tp ob fl) S T ∧ ∀ n, S.1 ob fl = Int32.ofNat n → n + 4 ≤ 600 → ∃ i, i ≤ 4 ∧ x = fxs i ∧ T.1 ob fl = Int32.ofNat (n + i) ∧ ∀ j, T.1 tp j = fwi (S.1 tp) n a i j
def fC (tp ob fl : Nat) (a : Int32) (S T : ex_S) : Prop := ex_fx (fP tp ob fl) S T ∧ ∀ n, S.1 ob fl = Int32.ofNat n → n + 4 ≤ 600 → T.1 ob fl = Int32.ofNat (n + 4) ∧ ∀ j, T.1 tp j = fwi (S.1 tp) n a 4 j
theorem fI_0 (tp ob fl : Nat) (a : Int32) (S : ex_S) : fI tp ob fl a S 24 S := ⟨ex_fx.refl _ S, fun n e hn => ⟨0, by omega, rfl, e, fun j => (fwi_0 _ _ _ _).symm⟩⟩
theorem fI_e {tp ob fl : Nat} {a x : Int32} {S T : ex_S} (h : fI tp ob fl a S x T) (c : x < 0) : fC tp ob fl a S T := by
  refine ⟨h.1, fun n e hn => ?_⟩
  obtain ⟨i, i1, i2, i3, i4⟩ := h.2 n e hn
  have i5 : i = 4 := by
    rcases Nat.lt_or_ge i 4 with z | z
    · rw [i2] at c; exact absurd c (fxs_nn i z)
    · omega
  subst i5
  exact ⟨i3, i4⟩
theorem fI_i {x : Int32} {i : Nat} (hi : i ≤ 4) (e : x = fxs i) (c : ¬ x < 0) : i < 4 := by
  rcases Nat.lt_or_ge i 4 with z | z
  · exact z
  · have : i = 4 := by omega
    subst this
    rw [e] at c
    exact absurd (show fxs 4 < 0 by decide) c
theorem fI_s {tp ob fl : Nat} {a x v : Int32} {S T : ex_S} (ht : tp ≠ ob) (h : fI tp ob fl a S x T) (c : ¬ x < 0) (hv : ∀ i, i < 4 → x = fxs i → v = fb a (fxs i)) : fI tp ob fl a S (x + (-8)) (ex_sx (ex_sx T tp ((T.1 ob fl).toNatClampNeg) v) ob fl ((T.1 ob fl) + 1)) := by
  refine ⟨(h.1.sx (Or.inl rfl)).sx (Or.inr ⟨rfl, rfl⟩), fun n e hn => ?_⟩
  obtain ⟨i, i1, i2, i3, i4⟩ := h.2 n e hn
  have i5 := fI_i i1 i2 c
  have v1 := hv i i5 i2
  refine ⟨i + 1, by omega, by rw [i2]; exact fxs_s i i5, by rw [ex_sx_eq, i3]; exact n32_s (n + i), fun j => ?_⟩
  rw [ex_sx_ne (fun z => ht z.1), ex_sx_at, i3, n32_tn (by omega), fwi_s, v1]
  by_cases q : j = n + i
  · rw [if_pos ⟨rfl, q⟩, if_pos q]
  · rw [if_neg (fun z => q z.2), if_neg q]; exact i4 j
theorem ec172 : es172 (fC 42 43 0) := by
  refine ev172 (I3 := fI 42 43 0) ?_ ?_ ?_
  · intro a S; exact fI_0 42 43 0 a S
  · intro a S x T h c; exact fI_e h c
  · intro a S x T h c
    exact fI_s (by decide) h c (fun i _ e => by rw [← e]; rfl)
theorem ec8 : es8 (fC 18 17 1) := by
  refine ev8 (I3 := fI 18 17 1) ?_ ?_ ?_ ?_
  · intro a S; exact fI_0 18 17 1 a S
  · intro a S x T h c; exact fI_e h c
  · intro a S x T h c c2
    refine ⟨h.1, fun n e hn => ?_⟩
    obtain ⟨i, i1, i2, i3, i4⟩ := h.2 n e hn
    have i5 := fI_i i1 i2 c
    rw [i3, show (600 : Int32) = Int32.ofNat 600 from rfl, n32_le (by omega) (by omega)] at c2
    exact absurd c2 (by omega)
  · intro a S x T h c _
    exact fI_s (by decide) h c (fun i hi e => by rw [e]; exact fb_u a i hi)
/-- feed: the answer, the tape -/
def fw5 (T : Nat → Int32) (n : Nat) (a0 a1 a2 a3 a4 : Int32) : Nat → Int32 := fwi (fwi (fwi (fwi (fwi T n a0 4) (n + 4) a1 4) (n + 4 + 4) a2 4) (n + 4 + 4 + 4) a3 4) (n + 4 + 4 + 4 + 4) a4 4
theorem fw5_cg {T U : Nat → Int32} {n : Nat} {a0 a1 a2 a3 a4 : Int32} {j : Nat} (h : T j = U j) : fw5 T n a0 a1 a2 a3 a4 j = fw5 U n a0 a1 a2 a3 a4 j := fwi_cg (fwi_cg (fwi_cg (fwi_cg (fwi_cg h))))
def fF (tp ob fl : Nat) (a0 a1 a2 a3 a4 : Int32) (S : ex_S) (v : Int32) (S_q : ex_S) : Prop := ex_fx (fun c k => fP tp ob fl c k ∨ (c = 41 ∧ k = 0)) S S_q ∧ ∀ n, S.1 ob fl = Int32.ofNat n → n ≤ 600 → (n ≤ 580 → v = Int32.ofNat (n + 20) ∧ S_q.1 ob fl = Int32.ofNat (n + 20) ∧ ∀ j, S_q.1 tp j = fw5 (S.1 tp) n a0 a1 a2 a3 a4 j) ∧ (¬ n ≤ 580 → v = -1 ∧ S_q.1 ob fl = S.1 ob fl ∧ ∀ j, S_q.1 tp j = S.1 tp j)
theorem fF_c {tp ob fl : Nat} {S S0 : ex_S} {n : Nat} (e : S.1 ob fl = Int32.ofNat n) (hn : n ≤ 600) : S.1 ob fl + 20 ≤ 600 ↔ n ≤ 580 := by
  rw [e, show (20 : Int32) = Int32.ofNat 20 from rfl, show (600 : Int32) = Int32.ofNat 600 from rfl, n32_add, n32_le (by omega) (by omega)]
  omega
theorem fF_y {tp ob fl : Nat} {a0 a1 a2 a3 a4 : Int32} {S S0 S1 S2 S3 S4 S5 : ex_S} (ho : ¬ (ob = 41 ∧ fl = 0)) (ht : tp ≠ 41) (F : ex_fx (fun c k => c = 41 ∧ k = 0) S S0) (c : S.1 ob fl + 20 ≤ 600) (h1 : fC tp ob fl a0 S0 S1) (h2 : fC tp ob fl a1 S1 S2) (h3 : fC tp ob fl a2 S2 S3) (h4 : fC tp ob fl a3 S3 S4) (h5 : fC tp ob fl a4 S4 S5) : fF tp ob fl a0 a1 a2 a3 a4 S (S5.1 ob fl) S5 := by
  refine ⟨(F.mono (fun _ _ z => Or.inr z)).trans ((((h1.1.trans h2.1).trans h3.1).trans (h4.1.trans h5.1)).mono (fun _ _ z => Or.inl z)), fun n e hn => ⟨fun q => ?_, fun q => absurd ((fF_c (tp := tp) (S0 := S0) e hn).mp c) q⟩⟩
  have e0 : S0.1 ob fl = Int32.ofNat n := (F.1 ob fl ho).trans e
  have t0 : ∀ j, S0.1 tp j = S.1 tp j := fun j => F.1 tp j (fun z => ht z.1)
  obtain ⟨e1, t1⟩ := h1.2 n e0 (by omega)
  obtain ⟨e2, t2⟩ := h2.2 _ e1 (by omega)
  obtain ⟨e3, t3⟩ := h3.2 _ e2 (by omega)
  obtain ⟨e4, t4⟩ := h4.2 _ e3 (by omega)
  obtain ⟨e5, t5⟩ := h5.2 _ e4 (by omega)
  refine ⟨e5, e5, fun j => ?_⟩
  unfold fw5
  rw [t5]; refine fwi_cg ?_
  rw [t4]; refine fwi_cg ?_
  rw [t3]; refine fwi_cg ?_
  rw [t2]; refine fwi_cg ?_
  rw [t1]; exact fwi_cg (t0 j)
theorem fF_n {tp ob fl : Nat} {a0 a1 a2 a3 a4 : Int32} {S S0 : ex_S} (ho : ¬ (ob = 41 ∧ fl = 0)) (ht : tp ≠ 41) (F : ex_fx (fun c k => c = 41 ∧ k = 0) S S0) (c : ¬ (S.1 ob fl + 20 ≤ 600)) : fF tp ob fl a0 a1 a2 a3 a4 S (-1) S0 :=
  ⟨F.mono (fun _ _ z => Or.inr z), fun n e hn => ⟨fun q => absurd ((fF_c (tp := tp) (S0 := S0) e hn).mpr q) c, fun _ => ⟨rfl, F.1 ob fl ho, fun j => F.1 tp j (fun z => ht z.1)⟩⟩⟩
theorem ec171 : es171 (fF 42 43 0) := by
  refine ev171 ec172 ?_ ?_
  · intro a0 a1 a2 a3 a4 S c S1 h1 S2 h2 S3 h3 S4 h4 S5 h5
    exact fF_y (by decide) (by decide) ((ex_fx.refl _ S).sx ⟨rfl, rfl⟩) c h1 h2 h3 h4 h5
  · intro a0 a1 a2 a3 a4 S c
    exact fF_n (by decide) (by decide) ((ex_fx.refl _ S).sx ⟨rfl, rfl⟩) c
theorem ec7 : es7 (fF 18 17 1) := by
  refine ev7 ec8 ?_ ?_
  · intro a0 a1 a2 a3 a4 S c S1 h1 S2 h2 S3 h3 S4 h4 S5 h5
    exact fF_y (by decide) (by decide) (ex_fx.refl _ S) c h1 h2 h3 h4 h5
  · intro a0 a1 a2 a3 a4 S c
    exact fF_n (by decide) (by decide) (ex_fx.refl _ S) c
/-- end -/
def eE (ob fl : Nat) (a : Int32) (S : ex_S) (v : Int32) (S_q : ex_S) : Prop := ex_fx (fun c k => (c = ob ∧ k = fl) ∨ (c = 41 ∧ k = 0)) S S_q ∧ (0 ≤ a ∧ a ≤ S.1 ob fl → v = a ∧ S_q.1 ob fl = a) ∧ (¬ (0 ≤ a ∧ a ≤ S.1 ob fl) → v = -1 ∧ S_q.1 ob fl = S.1 ob fl)
theorem ec173 : es173 (eE 43 0) := by
  refine ev173 ?_ ?_
  · intro a S c
    unfold vf174 at c
    rw [vf_0] at c
    have c := Classical.not_not.mp c
    exact ⟨((ex_fx.refl _ S).sx (Or.inr ⟨rfl, rfl⟩)).sx (Or.inl ⟨rfl, rfl⟩), fun _ => ⟨rfl, ex_sx_eq⟩, fun z => absurd c z⟩
  · intro a S c
    unfold vf174 at c
    rw [vf_0] at c
    have c : ¬ (0 ≤ a ∧ a ≤ S.1 43 0) := fun z => c (fun w => w z)
    exact ⟨(ex_fx.refl _ S).sx (Or.inr ⟨rfl, rfl⟩), fun z => absurd z c, fun _ => ⟨rfl, ex_sx_ne (by decide)⟩⟩
theorem ec9 : es9 (eE 17 1) := by
  refine ev9 ?_ ?_ ?_
  · intro a S c
    have c : ¬ (0 ≤ a ∧ a ≤ S.1 17 1) := fun z => Int32.not_le.mpr c z.1
    exact ⟨ex_fx.refl _ S, fun z => absurd z c, fun _ => ⟨rfl, rfl⟩⟩
  · intro a S c c2
    exact ⟨(ex_fx.refl _ S).sx (Or.inl ⟨rfl, rfl⟩), fun _ => ⟨rfl, ex_sx_eq⟩, fun z => absurd ⟨Int32.not_lt.mp c, c2⟩ z⟩
  · intro a S c c2
    exact ⟨ex_fx.refl _ S, fun z => absurd z.2 c2, fun _ => ⟨rfl, rfl⟩⟩
/-- fault, count: f, p, c what is told -/
def qF (f p : ex_S → Int32) (a : Int32) (S : ex_S) (v : Int32) (S_q : ex_S) : Prop := ex_fx (fun c k => c = 41 ∧ k = 0) S S_q ∧ v = if a = 0 then f S else if a = 1 then p S else -1
theorem ec194 : es194 (qF (fun S => S.1 44 0) (fun S => S.1 45 0)) := by
  refine ev194 ?_ ?_ ?_
  · intro a S c c1
    exact ⟨(ex_fx.refl _ S).sx ⟨rfl, rfl⟩, by rw [if_neg c, if_neg c1]⟩
  · intro a S c c1
    exact ⟨(ex_fx.refl _ S).sx ⟨rfl, rfl⟩, by rw [if_neg c, if_pos (Classical.not_not.mp c1)]⟩
  · intro a S c
    exact ⟨(ex_fx.refl _ S).sx ⟨rfl, rfl⟩, by rw [if_pos (Classical.not_not.mp c)]⟩
theorem ec55 : es55 (qF (fun S => S.1 17 2) (fun S => S.1 17 3)) := by
  refine ev55 ?_ ?_ ?_
  · intro a S c c1
    exact ⟨ex_fx.refl _ S, by rw [if_neg c, if_neg c1]⟩
  · intro a S c c1
    exact ⟨ex_fx.refl _ S, by rw [if_neg c, if_pos (Classical.not_not.mp c1)]⟩
  · intro a S c
    exact ⟨ex_fx.refl _ S, by rw [if_pos (Classical.not_not.mp c)]⟩
def qC (ct : Nat) (a : Int32) (S : ex_S) (v : Int32) (S_q : ex_S) : Prop := ex_fx (fun c k => c = 41 ∧ k = 0) S S_q ∧ v = if 0 ≤ a ∧ a ≤ 3 then S.1 ct a.toNatClampNeg else -2
theorem ec294 : es294 (qC 46) := by
  refine ev294 ?_ ?_
  · intro a S c
    unfold vf174 at c
    rw [vf_0] at c
    exact ⟨(ex_fx.refl _ S).sx ⟨rfl, rfl⟩, by rw [if_neg c]⟩
  · intro a S c
    unfold vf174 at c
    rw [vf_0] at c
    exact ⟨(ex_fx.refl _ S).sx ⟨rfl, rfl⟩, by rw [if_pos (Classical.not_not.mp c)]⟩
theorem lt4_le3 {a : Int32} : a < 4 ↔ a ≤ 3 := by
  rw [Int32.lt_iff_toInt_lt, Int32.le_iff_toInt_le, show (4 : Int32).toInt = 4 from rfl, show (3 : Int32).toInt = 3 from rfl]
  omega
theorem ec56 : es56 (qC 23) := by
  refine ev56 ?_ ?_ ?_
  · intro a S c
    exact ⟨ex_fx.refl _ S, by rw [if_neg (fun z => Int32.not_le.mpr c z.1)]⟩
  · intro a S c c2
    exact ⟨ex_fx.refl _ S, by rw [if_pos ⟨Int32.not_lt.mp c, lt4_le3.mp c2⟩]⟩
  · intro a S c c2
    exact ⟨ex_fx.refl _ S, by rw [if_neg (fun z => c2 (lt4_le3.mpr z.2))]⟩
end
section
/-! IMAGE and AGAIN of the reference -/
theorem i8_id {v : Int32} (h : sf_B (-128) 127 v) : v.toInt8.toInt32 = v := by
  apply Int32.toInt_inj.mp
  rw [Int8.toInt_toInt32, Int32.toInt_toInt8]
  obtain ⟨h1, h2⟩ := h
  exact Int.bmod_eq_of_le (by omega) (by omega)
theorem ro_dis {w f t i : Nat} (hi : i < w) (hne : f ≠ t) : w * f + i < w * t ∨ w * t + w ≤ w * f + i := by
  rcases Nat.lt_or_gt_of_ne hne with z | z
  · have := Nat.mul_le_mul_left w (Nat.succ_le_of_lt z)
    rw [Nat.mul_succ] at this; omega
  · have := Nat.mul_le_mul_left w (Nat.succ_le_of_lt z)
    rw [Nat.mul_succ] at this; omega
/-- of rows of w, row t becomes what row f is, i numbers of it -/
def roi (T : Nat → Int32) (w f t i j : Nat) : Int32 := if w * t ≤ j ∧ j < w * t + i then T (w * f + (j - w * t)) else T j
theorem roi_0 (T : Nat → Int32) (w f t j : Nat) : roi T w f t 0 j = T j := by
  unfold roi
  rw [if_neg (fun z => by omega)]
theorem roi_s (T : Nat → Int32) (w f t i j : Nat) : roi T w f t (i + 1) j = if j = w * t + i then T (w * f + i) else roi T w f t i j := by
  unfold roi
  by_cases e : j = w * t + i
  · rw [if_pos e, if_pos (show w * t ≤ j ∧ j < w * t + (i + 1) from ⟨by omega, by omega⟩), show j - w * t = i by omega]
  · rw [if_neg e]
    by_cases q : w * t ≤ j ∧ j < w * t + i
    · rw [if_pos q, if_pos (show w * t ≤ j ∧ j < w * t + (i + 1) from ⟨q.1, by omega⟩)]
    · rw [if_neg q, if_neg (show ¬ (w * t ≤ j ∧ j < w * t + (i + 1)) from fun z => q ⟨z.1, by omega⟩)]
theorem roi_src {T : Nat → Int32} {w f t i : Nat} (hi : i < w) (hne : f ≠ t) : roi T w f t i (w * f + i) = T (w * f + i) := by
  unfold roi
  rcases ro_dis hi hne with z | z
  · rw [if_neg (fun y => by omega)]
  · rw [if_neg (fun y => by omega)]
theorem ro_ix {w t i : Nat} (hw : w ≤ 700) (ht : t ≤ 3) (hi : i ≤ w) : (Int32.ofNat w * Int32.ofNat t + Int32.ofNat i).toNatClampNeg = w * t + i := by
  have : w * t ≤ 700 * 3 := Nat.mul_le_mul hw ht
  rw [← Int32.ofNat_mul, n32_add, n32_tn (by omega)]
def roC (c : Nat) (a1 a2 a3 : Int32) (S S_q : ex_S) : Prop := ex_fx (fun b _ => b = c) S S_q ∧ ∀ w f t, a1 = Int32.ofNat w → a2 = Int32.ofNat f → a3 = Int32.ofNat t → w ≤ 700 → f ≤ 3 → t ≤ 3 → f ≠ t → ∀ j, S_q.1 c j = roi (S.1 c) w f t w j
def roI (c : Nat) (a1 a2 a3 : Int32) (S : ex_S) (x : Int32) (T : ex_S) : Prop := ex_fx (fun b _ => b = c) S T ∧ ∀ w f t, a1 = Int32.ofNat w → a2 = Int32.ofNat f → a3 = Int32.ofNat t → w ≤ 700 → f ≤ 3 → t ≤ 3 → f ≠ t → ∃ i, i ≤ w ∧ x = Int32.ofNat i ∧ ∀ j, T.1 c j = roi (S.1 c) w f t i j
theorem ec297 : es297 roC := by
  refine ev297 (I3 := roI) ?_ ?_ ?_
  · intro c a1 a2 a3 S
    exact ⟨ex_fx.refl _ S, fun w f t _ _ _ _ _ _ _ => ⟨0, Nat.zero_le _, rfl, fun j => (roi_0 _ _ _ _ _).symm⟩⟩
  · intro c a1 a2 a3 S x T h q
    refine ⟨h.1, fun w f t e1 e2 e3 hw hf ht hne => ?_⟩
    obtain ⟨i, i1, i2, i3⟩ := h.2 w f t e1 e2 e3 hw hf ht hne
    rw [e1, i2, n32_le (by omega) (by omega)] at q
    have : i = w := by omega
    subst this
    exact i3
  · intro c a1 a2 a3 S x T h q
    refine ⟨h.1.sx rfl, fun w f t e1 e2 e3 hw hf ht hne => ?_⟩
    obtain ⟨i, i1, i2, i3⟩ := h.2 w f t e1 e2 e3 hw hf ht hne
    rw [e1, i2, n32_le (by omega) (by omega)] at q
    refine ⟨i + 1, by omega, by rw [i2]; exact n32_s i, fun j => ?_⟩
    rw [ex_sx_at, e1, e2, e3, i2, ro_ix hw ht (by omega), ro_ix hw hf (by omega), i3, roi_src (by omega) hne, roi_s]
    by_cases z : j = w * t + i
    · rw [if_pos ⟨rfl, z⟩, if_pos z]
    · rw [if_neg (fun y => z y.2), if_neg z]; exact i3 j
/-- all that is told comes from f to t -/
def raP (c : Nat) : Prop := 42 ≤ c ∧ c ≤ 50
def raC (a0 a1 : Int32) (S S_q : ex_S) : Prop := ex_fx (fun c _ => raP c) S S_q ∧ ∀ f t, a0 = Int32.ofNat f → a1 = Int32.ofNat t → f ≤ 3 → t ≤ 3 → f ≠ t → (∀ i, sf_B (-128) 127 (S.1 42 i)) → (∀ j, S_q.1 42 j = roi (S.1 42) 600 f t 600 j) ∧ (∀ j, S_q.1 43 j = roi (S.1 43) 1 f t 1 j) ∧ (∀ j, S_q.1 44 j = roi (S.1 44) 1 f t 1 j) ∧ (∀ j, S_q.1 45 j = roi (S.1 45) 1 f t 1 j) ∧ (∀ j, S_q.1 46 j = roi (S.1 46) 4 f t 4 j) ∧ (∀ j, S_q.1 47 j = roi (S.1 47) 200 f t 200 j) ∧ (∀ j, S_q.1 48 j = roi (S.1 48) 39 f t 39 j) ∧ (∀ j, S_q.1 49 j = roi (S.1 49) 304 f t 304 j) ∧ (∀ j, S_q.1 50 j = roi (S.1 50) 50 f t 50 j)
def raI (a0 a1 : Int32) (S : ex_S) (x : Int32) (T : ex_S) : Prop := ex_fx (fun c _ => c = 42) S T ∧ ∀ f t, a0 = Int32.ofNat f → a1 = Int32.ofNat t → f ≤ 3 → t ≤ 3 → f ≠ t → (∀ i, sf_B (-128) 127 (S.1 42 i)) → ∃ i, i ≤ 600 ∧ x = Int32.ofNat i ∧ ∀ j, T.1 42 j = roi (S.1 42) 600 f t i j
theorem ec296 : es296 raC := by
  refine ev296 (I2 := raI) ec297 ?_ ?_ ?_
  · intro a0 a1 S
    exact ⟨ex_fx.refl _ S, fun f t _ _ _ _ _ _ => ⟨0, by omega, rfl, fun j => (roi_0 _ _ _ _ _).symm⟩⟩
  · intro a0 a1 S x T h q S1 h1 S2 h2 S3 h3 S4 h4 S5 h5 S6 h6 S7 h7 S8 h8
    have up : ∀ {c : Nat} {U V : ex_S}, raP c → ex_fx (fun b _ => b = c) U V → ex_fx (fun c _ => raP c) U V := fun hc F => F.mono (fun a k z => by rw [show a = _ from z]; exact hc)
    have F0 := up (c := 42) (by unfold raP; omega) h.1
    have F1 := up (c := 43) (by unfold raP; omega) h1.1
    have F2 := up (c := 44) (by unfold raP; omega) h2.1
    have F3 := up (c := 45) (by unfold raP; omega) h3.1
    have F4 := up (c := 46) (by unfold raP; omega) h4.1
    have F5 := up (c := 47) (by unfold raP; omega) h5.1
    have F6 := up (c := 48) (by unfold raP; omega) h6.1
    have F7 := up (c := 49) (by unfold raP; omega) h7.1
    have F8 := up (c := 50) (by unfold raP; omega) h8.1
    refine ⟨((((((((F0.trans F1).trans F2).trans F3).trans F4).trans F5).trans F6).trans F7).trans F8), fun f t e0 e1 hf ht hne hB => ?_⟩
    obtain ⟨i, i1, i2, i3⟩ := h.2 f t e0 e1 hf ht hne hB
    rw [i2, show (600 : Int32) = Int32.ofNat 600 from rfl, n32_le (by omega) (by omega)] at q
    have : i = 600 := by omega
    subst this
    have g1 := h1.2 1 f t rfl e0 e1 (by omega) hf ht hne
    have g2 := h2.2 1 f t rfl e0 e1 (by omega) hf ht hne
    have g3 := h3.2 1 f t rfl e0 e1 (by omega) hf ht hne
    have g4 := h4.2 4 f t rfl e0 e1 (by omega) hf ht hne
    have g5 := h5.2 200 f t rfl e0 e1 (by omega) hf ht hne
    have g6 := h6.2 39 f t rfl e0 e1 (by omega) hf ht hne
    have g7 := h7.2 304 f t rfl e0 e1 (by omega) hf ht hne
    have g8 := h8.2 50 f t rfl e0 e1 (by omega) hf ht hne
    -- what each piece leaves alone
    have k0 : ∀ c, c ≠ 42 → T.1 c = S.1 c := fun c hc => funext fun j => h.1.1 c j hc
    have k1 : ∀ c, c ≠ 43 → S1.1 c = T.1 c := fun c hc => funext fun j => h1.1.1 c j hc
    have k2 : ∀ c, c ≠ 44 → S2.1 c = S1.1 c := fun c hc => funext fun j => h2.1.1 c j hc
    have k3 : ∀ c, c ≠ 45 → S3.1 c = S2.1 c := fun c hc => funext fun j => h3.1.1 c j hc
    have k4 : ∀ c, c ≠ 46 → S4.1 c = S3.1 c := fun c hc => funext fun j => h4.1.1 c j hc
    have k5 : ∀ c, c ≠ 47 → S5.1 c = S4.1 c := fun c hc => funext fun j => h5.1.1 c j hc
    have k6 : ∀ c, c ≠ 48 → S6.1 c = S5.1 c := fun c hc => funext fun j => h6.1.1 c j hc
    have k7 : ∀ c, c ≠ 49 → S7.1 c = S6.1 c := fun c hc => funext fun j => h7.1.1 c j hc
    have k8 : ∀ c, c ≠ 50 → S8.1 c = S7.1 c := fun c hc => funext fun j => h8.1.1 c j hc
    refine ⟨fun j => ?_, fun j => ?_, fun j => ?_, fun j => ?_, fun j => ?_, fun j => ?_, fun j => ?_, fun j => ?_, fun j => ?_⟩
    · rw [k8 42 (by decide), k7 42 (by decide), k6 42 (by decide), k5 42 (by decide), k4 42 (by decide), k3 42 (by decide), k2 42 (by decide), k1 42 (by decide)]; exact i3 j
    · rw [k8 43 (by decide), k7 43 (by decide), k6 43 (by decide), k5 43 (by decide), k4 43 (by decide), k3 43 (by decide), k2 43 (by decide), g1, k0 43 (by decide)]
    · rw [k8 44 (by decide), k7 44 (by decide), k6 44 (by decide), k5 44 (by decide), k4 44 (by decide), k3 44 (by decide), g2, k1 44 (by decide), k0 44 (by decide)]
    · rw [k8 45 (by decide), k7 45 (by decide), k6 45 (by decide), k5 45 (by decide), k4 45 (by decide), g3, k2 45 (by decide), k1 45 (by decide), k0 45 (by decide)]
    · rw [k8 46 (by decide), k7 46 (by decide), k6 46 (by decide), k5 46 (by decide), g4, k3 46 (by decide), k2 46 (by decide), k1 46 (by decide), k0 46 (by decide)]
    · rw [k8 47 (by decide), k7 47 (by decide), k6 47 (by decide), g5, k4 47 (by decide), k3 47 (by decide), k2 47 (by decide), k1 47 (by decide), k0 47 (by decide)]
    · rw [k8 48 (by decide), k7 48 (by decide), g6, k5 48 (by decide), k4 48 (by decide), k3 48 (by decide), k2 48 (by decide), k1 48 (by decide), k0 48 (by decide)]
    · rw [k8 49 (by decide), g7, k6 49 (by decide), k5 49 (by decide), k4 49 (by decide), k3 49 (by decide), k2 49 (by decide), k1 49 (by decide), k0 49 (by decide)]
    · rw [g8, k7 50 (by decide), k6 50 (by decide), k5 50 (by decide), k4 50 (by decide), k3 50 (by decide), k2 50 (by decide), k1 50 (by decide), k0 50 (by decide)]
  · intro a0 a1 S x T h q
    refine ⟨h.1.sx rfl, fun f t e0 e1 hf ht hne hB => ?_⟩
    obtain ⟨i, i1, i2, i3⟩ := h.2 f t e0 e1 hf ht hne hB
    rw [i2, show (600 : Int32) = Int32.ofNat 600 from rfl, n32_le (by omega) (by omega)] at q
    refine ⟨i + 1, by omega, by rw [i2]; exact n32_s i, fun j => ?_⟩
    have x1 : ((600 : Int32) * Int32.ofNat t + Int32.ofNat i).toNatClampNeg = 600 * t + i := ro_ix (w := 600) (by omega) ht (by omega)
    have x0 : ((600 : Int32) * Int32.ofNat f + Int32.ofNat i).toNatClampNeg = 600 * f + i := ro_ix (w := 600) (by omega) hf (by omega)
    rw [ex_sx_at, e0, e1, i2, x1, x0, i3, roi_src (by omega) hne, i8_id (hB _), roi_s]
    by_cases z : j = 600 * t + i
    · rw [if_pos ⟨rfl, z⟩, if_pos z]
    · rw [if_neg (fun y => z y.2), if_neg z]; exact i3 j
/-- image, again: the answer, what is copied -/
def riC (a : Int32) (S : ex_S) (v : Int32) (S_q : ex_S) : Prop := (¬ (0 ≤ a ∧ a ≤ 2) → v = 0 ∧ S_q = ex_sx S 41 0 0) ∧ (0 ≤ a ∧ a ≤ 2 → v = 1 ∧ ∃ S1, raC 0 (a + 1) (ex_sx S 41 0 0) S1 ∧ S_q = ex_sx S1 71 a.toNatClampNeg 1)
theorem ec295 : es295 riC := by
  refine ev295 ec296 ?_ ?_
  · intro a S c S1 h1
    unfold vf174 at c
    rw [vf_0] at c
    have c := Classical.not_not.mp c
    exact ⟨fun z => absurd c z, fun _ => ⟨rfl, S1, h1, rfl⟩⟩
  · intro a S c
    unfold vf174 at c
    rw [vf_0] at c
    exact ⟨fun _ => ⟨rfl, rfl⟩, fun z => absurd z (fun w => c (fun y => y w))⟩
def rgC (a : Int32) (S : ex_S) (v : Int32) (S_q : ex_S) : Prop := (¬ ((0 ≤ a ∧ a ≤ 2) ∧ ¬ S.1 71 a.toNatClampNeg = 0) → v = 0 ∧ S_q = ex_sx S 41 0 0) ∧ ((0 ≤ a ∧ a ≤ 2) ∧ ¬ S.1 71 a.toNatClampNeg = 0 → v = 1 ∧ raC (a + 1) 0 (ex_sx S 41 0 0) S_q)
theorem ec298 : es298 rgC := by
  refine ev298 ec296 ?_ ?_ ?_
  · intro a S c
    unfold vf174 at c
    rw [vf_0] at c
    exact ⟨fun _ => ⟨rfl, rfl⟩, fun z => absurd z.1 c⟩
  · intro a S c c2 S1 h1
    unfold vf174 at c
    rw [vf_0] at c
    have c := Classical.not_not.mp c
    exact ⟨fun z => absurd ⟨c, c2⟩ z, fun _ => ⟨rfl, h1⟩⟩
  · intro a S c c2
    exact ⟨fun _ => ⟨rfl, rfl⟩, fun z => absurd z.2 c2⟩
end
section
/-! IMAGE and AGAIN of the class -/
theorem ex_sz_at (S : ex_S) (a k b j : Nat) (v : Option Nat) : (ex_sz S a k v).2.2.1 b j = if b = a ∧ j = k then v else S.2.2.1 b j := rfl
def tlen (m : Nat) : Nat := if m = 1 then 3 else if m < 4 then 2 else 0
/-- an object of what is told, with its arrays behind it -/
def tO (S : ex_S) (t : Nat) : Prop := S.2.2.1 t 0 = some (t + 1) ∧ S.2.2.1 t 8 = some (t + 6) ∧ ∀ m, m < 4 → S.2.2.1 t (4 + m) = some (t + 2 + m) ∧ S.2.2.2.1 (t + 2 + m) = tlen m
def tD (t a : Nat) : Prop := t + 7 ≤ a ∨ a + 7 ≤ t
/-- the texts of a, in t: m sorts of them, and i of the next -/
def tzz (S : ex_S) (t a m i c j : Nat) : Option Nat := if (t + 2 ≤ c ∧ c < t + 2 + m ∧ j < S.2.2.2.1 c) ∨ (c = t + 2 + m ∧ j < i) then S.2.2.1 (a + (c - t)) j else S.2.2.1 c j
def tI (m t a : Nat) (S : ex_S) (x : Int32) (T : ex_S) : Prop := tO S t → tO S a → tD t a → T.1 = S.1 ∧ T.2.1 = S.2.1 ∧ T.2.2.2 = S.2.2.2 ∧ ∃ i, i ≤ tlen m ∧ x = Int32.ofNat i ∧ ∀ c j, T.2.2.1 c j = tzz S t a m i c j
theorem tzz_out {S : ex_S} {t a m i c j : Nat} (hm : m ≤ 4) (h : c < t + 2 ∨ t + 6 ≤ c) (hi : m < 4 ∨ i = 0) : tzz S t a m i c j = S.2.2.1 c j := by
  unfold tzz
  rw [if_neg (fun z => by rcases z with z | z <;> omega)]
theorem tI_0 (t a : Nat) (S : ex_S) : tI 0 t a S 0 S := fun _ _ _ => ⟨rfl, rfl, rfl, 0, Nat.zero_le _, rfl, fun c j => by
  unfold tzz
  rw [if_neg (fun z => by rcases z with z | z <;> omega)]⟩
theorem tlen_le (m : Nat) : tlen m ≤ 3 := by
  unfold tlen
  split
  · omega
  · split <;> omega
theorem tI_s {m t a b1 b4 : Nat} {S T : ex_S} {x : Int32} (hm : m < 4) (h : tI m t a S x T) (e1 : T.2.2.1 t (4 + m) = some b1) (c : ¬ (Int32.ofNat (T.2.2.2.1 b1) ≤ x)) (e4 : T.2.2.1 a (4 + m) = some b4) : tI m t a S (x + 1) (ex_sz T b1 x.toNatClampNeg (T.2.2.1 b4 x.toNatClampNeg)) := by
  intro ot oa dd
  obtain ⟨h1, h2, h3, i, i1, i2, i3⟩ := h ot oa dd
  have dd' := dd
  unfold tD at dd'
  have l3 := tlen_le m
  rw [i3, tzz_out (by omega) (Or.inl (by omega)) (Or.inl hm), (ot.2.2 m hm).1] at e1
  cases e1
  rw [i3, tzz_out (by omega) (by omega) (Or.inl hm), (oa.2.2 m hm).1] at e4
  cases e4
  have e5 : T.2.2.2.1 (t + 2 + m) = tlen m := by rw [h3]; exact (ot.2.2 m hm).2
  rw [e5, i2, n32_le (by omega) (by omega)] at c
  refine ⟨h1, h2, h3, i + 1, by omega, by rw [i2]; exact n32_s i, fun c_q j => ?_⟩
  rw [ex_sz_at, i2, n32_tn (by omega), i3, i3, tzz_out (c := a + 2 + m) (by omega) (by omega) (Or.inl hm)]
  unfold tzz
  by_cases q : c_q = t + 2 + m ∧ j = i
  · obtain ⟨q1, q2⟩ := q
    subst q1; subst q2
    rw [if_pos ⟨rfl, rfl⟩, if_pos (Or.inr ⟨rfl, by omega⟩), show a + (t + 2 + m - t) = a + 2 + m by omega]
  · rw [if_neg q]
    by_cases w : (t + 2 ≤ c_q ∧ c_q < t + 2 + m ∧ j < S.2.2.2.1 c_q) ∨ (c_q = t + 2 + m ∧ j < i)
    · rw [if_pos w, if_pos (w.imp id (fun z => ⟨z.1, by omega⟩))]
    · rw [if_neg w, if_neg (fun z => w (z.imp id (fun y => ⟨y.1, by
        have : ¬ j = i := fun e => q ⟨y.1, e⟩
        omega⟩)))]
theorem tI_e {m t a b1 : Nat} {S T : ex_S} {x : Int32} (hm : m < 4) (h : tI m t a S x T) (e1 : T.2.2.1 t (4 + m) = some b1) (c : Int32.ofNat (T.2.2.2.1 b1) ≤ x) : tI (m + 1) t a S 0 T := by
  intro ot oa dd
  obtain ⟨h1, h2, h3, i, i1, i2, i3⟩ := h ot oa dd
  have l3 := tlen_le m
  rw [i3, tzz_out (by omega) (Or.inl (by omega)) (Or.inl hm), (ot.2.2 m hm).1] at e1
  cases e1
  have e5 : T.2.2.2.1 (t + 2 + m) = tlen m := by rw [h3]; exact (ot.2.2 m hm).2
  rw [e5, i2, n32_le (by omega) (by omega)] at c
  refine ⟨h1, h2, h3, 0, Nat.zero_le _, rfl, fun c_q j => ?_⟩
  rw [i3]
  unfold tzz
  have e6 := (ot.2.2 m hm).2
  by_cases w : (t + 2 ≤ c_q ∧ c_q < t + 2 + m ∧ j < S.2.2.2.1 c_q) ∨ (c_q = t + 2 + m ∧ j < i)
  · rw [if_pos w, if_pos]
    rcases w with w | w
    · exact Or.inl ⟨w.1, by omega, w.2.2⟩
    · refine Or.inl ⟨by omega, by omega, ?_⟩
      rw [w.1, e6]; omega
  · rw [if_neg w, if_neg]
    intro z
    rcases z with z | z
    · refine w ?_
      by_cases y : c_q = t + 2 + m
      · refine Or.inr ⟨y, ?_⟩
        have z3 := z.2.2
        rw [y, e6] at z3; omega
      · exact Or.inl ⟨z.1, by omega, z.2.2⟩
    · omega
theorem ec59 : es59 (fun t a S T => tI 4 t a S 0 T) := by
  refine ev59 (I2 := tI 0) (I31 := tI 1) (I60 := tI 2) (I89 := tI 3) ?_ ?_ ?_ ?_ ?_ ?_ ?_ ?_ ?_
  · intro t a S; exact tI_0 t a S
  · intro t a S x T h b1 e1 c; exact tI_e (m := 0) (by decide) h e1 c
  · intro t a S x T h b1 e1 c b4 e4; exact tI_s (m := 0) (by decide) h e1 c e4
  · intro t a S x T h b1 e1 c; exact tI_e (m := 1) (by decide) h e1 c
  · intro t a S x T h b1 e1 c b4 e4; exact tI_s (m := 1) (by decide) h e1 c e4
  · intro t a S x T h b1 e1 c; exact tI_e (m := 2) (by decide) h e1 c
  · intro t a S x T h b1 e1 c b4 e4; exact tI_s (m := 2) (by decide) h e1 c e4
  · intro t a S x T h b1 e1 c; exact tI_e (m := 3) (by decide) h e1 c
  · intro t a S x T h b1 e1 c b4 e4; exact tI_s (m := 3) (by decide) h e1 c e4
/-- t becomes what a is -/
def tC (t a : Nat) (S S_q : ex_S) : Prop := tO S t → tO S a → tD t a → (∀ c j, S_q.1 c j = if c = t + 1 ∧ j < 600 then S.1 (a + 1) j else if c = t ∧ 1 ≤ j ∧ j ≤ 3 then S.1 a j else if c = t + 6 ∧ j < 4 then S.1 (a + 6) j else S.1 c j) ∧ S_q.2.1 = S.2.1 ∧ S_q.2.2.2 = S.2.2.2 ∧ ∀ c j, S_q.2.2.1 c j = tzz S t a 4 0 c j
theorem ec58 : es58 tC := by
  refine ev58 ec59 ?_
  intro t a S b1 e1 b3 e3 b5 e5 b7 e7 S_q h ot oa dd
  have f5 : S.2.2.1 t 8 = some b5 := e5
  have f7 : S.2.2.1 a 8 = some b7 := e7
  clear e5 e7
  rw [ot.1] at e1; cases e1
  rw [oa.1] at e3; cases e3
  rw [ot.2.1] at f5; cases f5
  rw [oa.2.1] at f7; cases f7
  obtain ⟨h1, h2, h3, i, i1, i2, i3⟩ := h ot oa dd
  have i0 : i = 0 := Nat.le_zero.mp i1
  subst i0
  refine ⟨fun c j => ?_, h2, h3, i3⟩
  unfold tD at dd
  rw [h1, ex_cp_at]
  by_cases q : c = t + 6 ∧ j < 4
  · rw [if_pos ⟨q.1, by omega, by omega⟩, if_neg (by omega), if_neg (by omega), if_pos q]
    rw [ex_sx_ne (by omega), ex_sx_ne (by omega), ex_sx_ne (by omega), ex_cp_at, if_neg (by omega), show 0 + (j - 0) = j by omega]
  · rw [if_neg (fun z => q ⟨z.1, by omega⟩)]
    by_cases q2 : c = t ∧ 1 ≤ j ∧ j ≤ 3
    · rw [if_neg (fun z => by omega), if_pos q2]
      obtain ⟨q2, q3, q4⟩ := q2
      subst q2
      have : j = 1 ∨ j = 2 ∨ j = 3 := by omega
      rcases this with rfl | rfl | rfl
      · rw [ex_sx_ne (by omega), ex_sx_ne (by omega), ex_sx_eq, ex_cp_at, if_neg (by omega)]
      · rw [ex_sx_ne (by omega), ex_sx_eq, ex_sx_ne (by omega), ex_cp_at, if_neg (by omega)]
      · rw [ex_sx_eq, ex_sx_ne (by omega), ex_sx_ne (by omega), ex_cp_at, if_neg (by omega)]
    · rw [ex_sx_ne (by omega), ex_sx_ne (by omega), ex_sx_ne (by omega), ex_cp_at]
      by_cases q3 : c = t + 1 ∧ j < 600
      · rw [if_pos ⟨q3.1, by omega, by omega⟩, if_pos q3, show 0 + (j - 0) = j by omega]
      · rw [if_neg (fun z => q3 ⟨z.1, by omega⟩), if_neg q3, if_neg q2, if_neg q]
/-- a new object of what is told -/
def tN (t : Nat) (S S_q : ex_S) : Prop := t + 1 = S.2.2.2.2 → tO S_q t ∧ S_q.2.2.2.2 = t + 7 ∧ ∀ c j, c < t → S_q.1 c j = S.1 c j ∧ S_q.2.1 c j = S.2.1 c j ∧ S_q.2.2.1 c j = S.2.2.1 c j ∧ S_q.2.2.2.1 c = S.2.2.2.1 c
theorem ec2 : es2 tN := by
  refine ev2 ?_
  intro t S _ hS
  refine ⟨⟨?_, ?_, fun m hm => ?_⟩, ?_, fun c j hc => ?_⟩
  · simp [ex_sz, ex_new, ex_sx, ← hS]; try omega
  · simp [ex_sz, ex_new, ex_sx, ← hS]; try omega
  · have : m = 0 ∨ m = 1 ∨ m = 2 ∨ m = 3 := by omega
    rcases this with rfl | rfl | rfl | rfl <;> (simp [ex_sz, ex_new, ex_sx, ← hS, tlen]; try omega)
  · simp [ex_sz, ex_new, ex_sx, ← hS]; try omega
  · have n0 : ¬ c = t := by omega
    have n1 : ¬ c = t + 1 := by omega
    have n2 : ¬ c = t + 1 + 1 := by omega
    have n3 : ¬ c = t + 1 + 1 + 1 := by omega
    have n4 : ¬ c = t + 1 + 1 + 1 + 1 := by omega
    have n5 : ¬ c = t + 1 + 1 + 1 + 1 + 1 := by omega
    have n6 : ¬ c = t + 1 + 1 + 1 + 1 + 1 + 1 := by omega
    simp [ex_sz, ex_new, ex_sx, ← hS, n0, n1, n2, n3, n4, n5, n6]
def ciC (a : Int32) (S : ex_S) (v : Int32) (S_q : ex_S) : Prop := (¬ (0 ≤ a ∧ a ≤ 2) → v = 0 ∧ S_q = S) ∧ (0 ≤ a ∧ a ≤ 2 → v = 1 ∧ ((∃ b, S.2.2.1 24 a.toNatClampNeg = some b ∧ tC b 17 S S_q) ∨ (S.2.2.1 24 a.toNatClampNeg = none ∧ ∃ S1, tN S.2.2.2.2 (ex_new S 0) S1 ∧ tC S.2.2.2.2 17 (ex_sz S1 24 a.toNatClampNeg (some S.2.2.2.2)) S_q)))
theorem lt3_le2 {a : Int32} : a < 3 ↔ a ≤ 2 := by
  rw [Int32.lt_iff_toInt_lt, Int32.le_iff_toInt_le, show (3 : Int32).toInt = 3 from rfl, show (2 : Int32).toInt = 2 from rfl]
  omega
theorem ec57 : es57 ciC := by
  refine ev57 ec2 ec58 ?_ ?_ ?_ ?_
  · intro a S c
    exact ⟨fun _ => ⟨rfl, rfl⟩, fun z => absurd z.1 (Int32.not_le.mpr c)⟩
  · intro a S c c2 b e S_q h
    exact ⟨fun z => absurd ⟨Int32.not_lt.mp c, lt3_le2.mp c2⟩ z, fun _ => ⟨rfl, Or.inl ⟨b, e, h⟩⟩⟩
  · intro a S c c2 e _ S1 h1 b eb S_q h
    cases eb
    exact ⟨fun z => absurd ⟨Int32.not_lt.mp c, lt3_le2.mp c2⟩ z, fun _ => ⟨rfl, Or.inr ⟨e, S1, h1, h⟩⟩⟩
  · intro a S c c2
    exact ⟨fun _ => ⟨rfl, rfl⟩, fun z => absurd (lt3_le2.mpr z.2) c2⟩
def cgC (a : Int32) (S : ex_S) (v : Int32) (S_q : ex_S) : Prop := (¬ ((0 ≤ a ∧ a ≤ 2) ∧ ¬ S.2.2.1 24 a.toNatClampNeg = none) → v = 0 ∧ S_q = S) ∧ ((0 ≤ a ∧ a ≤ 2) ∧ ¬ S.2.2.1 24 a.toNatClampNeg = none → v = 1 ∧ ∃ b, S.2.2.1 24 a.toNatClampNeg = some b ∧ tC 17 b S S_q)
theorem ec60 : es60 cgC := by
  refine ev60 ec58 ?_ ?_ ?_ ?_
  · intro a S c
    exact ⟨fun _ => ⟨rfl, rfl⟩, fun z => absurd z.1.1 (Int32.not_le.mpr c)⟩
  · intro a S c c2
    exact ⟨fun _ => ⟨rfl, rfl⟩, fun z => absurd (lt3_le2.mpr z.1.2) (Int32.not_lt.mpr c2)⟩
  · intro a S c c2 b e S_q h
    exact ⟨fun z => absurd ⟨⟨Int32.not_lt.mp c, lt3_le2.mp (Int32.not_le.mp c2)⟩, by rw [e]; exact fun y => by cases y⟩ z, fun _ => ⟨rfl, b, e, h⟩⟩
  · intro a S c c2 e
    exact ⟨fun _ => ⟨rfl, rfl⟩, fun z => absurd e z.2⟩
end
section
/-! TEXT of the class: what is kept leaves all cells below 72 alone -/
def mkp (t : Nat) (S : ex_S) : Prop := 72 ≤ S.2.2.2.2 ∧ ∀ k b, S.2.2.1 t k = some b → 72 ≤ b
def mk (t : Nat) (S T : ex_S) : Prop := (∀ a k, a < 72 → T.1 a k = S.1 a k) ∧ mkp t T
theorem mk.refl {t : Nat} {S : ex_S} (h : mkp t S) : mk t S S := ⟨fun _ _ _ => rfl, h⟩
theorem mk.trans {t : Nat} {S T U : ex_S} (h : mk t S T) (g : mk t T U) : mk t S U := ⟨fun a k ha => (g.1 a k ha).trans (h.1 a k ha), g.2⟩
theorem mk.sx {t b k : Nat} {v : Int32} {S T : ex_S} (h : mk t S T) (hb : 72 ≤ b) : mk t S (ex_sx T b k v) := ⟨fun a j ha => (ex_sx_ne (fun z => by omega)).trans (h.1 a j ha), h.2⟩
theorem mk.sy {t b k : Nat} {v : Int64} {S T : ex_S} (h : mk t S T) : mk t S (ex_sy T b k v) := ⟨h.1, h.2⟩
theorem mk.sz {t b k : Nat} {v : Option Nat} {S T : ex_S} (h : mk t S T) (hv : ∀ c, v = some c → 72 ≤ c) : mk t S (ex_sz T b k v) := by
  refine ⟨h.1, h.2.1, fun j c e => ?_⟩
  have e : (if t = b ∧ j = k then v else T.2.2.1 t j) = some c := e
  split at e
  · exact hv c e
  · exact h.2.2 j c e
theorem mk.new {t n : Nat} {S T : ex_S} (h : mk t S T) : mk t S (ex_new T n) := by
  have t72 := h.2.1
  refine ⟨fun a j ha => ?_, Nat.le_succ_of_le h.2.1, fun j c e => ?_⟩
  · show (if a = T.2.2.2.2 then 0 else T.1 a j) = S.1 a j
    rw [if_neg (by omega)]; exact h.1 a j ha
  · have e : (if t = T.2.2.2.2 then none else T.2.2.1 t j) = some c := e
    split at e
    · cases e
    · exact h.2.2 j c e
theorem mk.cl {t n : Nat} {S T : ex_S} (h : mk t S T) : mk t S (ex_cl T n) := by
  have t72 := h.2.1
  refine ⟨fun a j ha => ?_, Nat.le_succ_of_le h.2.1, fun j c e => ?_⟩
  · show (if a = T.2.2.2.2 then T.1 n j else T.1 a j) = S.1 a j
    rw [if_neg (by omega)]; exact h.1 a j ha
  · have e : (if t = T.2.2.2.2 then none else T.2.2.1 t j) = some c := e
    split at e
    · cases e
    · exact h.2.2 j c e
theorem mk.cp {t a sp b dp n : Nat} {S T : ex_S} (h : mk t S T) (hb : 72 ≤ b) : mk t S (ex_cp T a sp b dp n) := by
  refine ⟨fun c j hc => ?_, h.2⟩
  show (if c = b ∧ dp ≤ j ∧ j < dp + n then T.1 a (sp + (j - dp)) else T.1 c j) = S.1 c j
  rw [if_neg (fun z => by omega)]; exact h.1 c j hc
def mk45 (_a : Nat) (_n : Int32) (S : ex_S) (r : Option Nat) (S_q : ex_S) : Prop := ∀ t, mkp t S → mk t S S_q ∧ ∀ b, r = some b → 72 ≤ b
theorem ec45m : es45 mk45 := by
  refine ev45 ?_ ?_
  · intro a n S _ t h
    exact ⟨((mk.refl h).new).cp h.1, fun b e => by cases e; exact h.1⟩
  · intro a n S _ t h
    exact ⟨(mk.refl h).cl, fun b e => by cases e; exact h.1⟩
def mk1 (t : Nat) (S S_q : ex_S) : Prop := 72 ≤ t → mkp t S → mk t S S_q
theorem ec46m : es46 (fun t _ S _ T => mk1 t S T) := by
  refine ev46 (I4 := fun t _ S _ _ T => mk1 t S T) (I32 := fun t _ S _ _ _ _ _ T => mk1 t S T) ?_ ?_ ?_ ?_ ?_ ?_ ?_
  · intro t a S _ h; exact mk.refl h
  · intro t a S x y T h _; exact h
  · intro t a S x y T h _ b _; exact h
  · intro t a S x y z w u T h _ b e _ ht hp
    have g := h ht hp
    exact g.sx (g.2.2 _ _ e)
  · intro t a S x y z w u T h _ b e _ ht hp
    have g := h ht hp
    exact g.sx (g.2.2 _ _ e)
  · intro t a S x y z w u T h _ _; exact h
  · intro t a S x y z w u T h _ _ b _; exact h
theorem ec44m : es44 mk1 := by
  refine ev44 (I86 := fun t S _ T => mk1 t S T) (I144 := fun t S _ T => mk1 t S T) (I169 := fun t S _ _ T => mk1 t S T) ec45m ec46m ?_ ?_ ?_ ?_ ?_ ?_ ?_ ?_
  · intro t S r2 S3 h3 r6 S7 h7 ht hp
    have g1 : mk t S (ex_sx (ex_sz (ex_new (ex_sz (ex_new S 60) t 5 (some S.2.2.2.2)) 100) t 6 (some ((ex_new S 60).2.2.2.2))) t 0 ((ex_new (ex_sz (ex_new S 60) t 5 (some S.2.2.2.2)) 100).1 25 4)) := by
      have a1 := ((mk.refl hp).new (n := 60)).sz (b := t) (k := 5) (v := some S.2.2.2.2) (fun c e => by cases e; exact hp.1)
      have a2 := (a1.new (n := 100)).sz (b := t) (k := 6) (v := some ((ex_new S 60).2.2.2.2)) (fun c e => by cases e; exact Nat.le_succ_of_le hp.1)
      exact a2.sx ht
    have q3 := h3 t g1.2
    have g3 := g1.trans q3.1
    have g4 := (g3.sz (b := t) (k := 1) (v := r2) q3.2).sx (b := t) (k := 2) (v := S3.1 25 6) ht
    have q7 := h7 t g4.2
    have g7 := g4.trans q7.1
    exact ((g7.sz (b := t) (k := 3) (v := r6) q7.2).cl (n := 28)).sz (b := t) (k := 4) (v := some S7.2.2.2.2) (fun c e => by cases e; exact q7.1.2.1)
  · intro t S x T h _; exact h
  · intro t S x T h _ b e b2 e2 ht hp; exact (h ht hp).sy
  · intro t S x T h _; exact h
  · intro t S x T h _ b e ht hp
    have g := h ht hp
    exact g.sx (g.2.2 _ _ e)
  · intro t S x y T h _ ht hp; exact (h ht hp).sx ht
  · intro t S x y T h _ r S2 h2 _ ht hp
    have g := h ht hp
    exact g.trans (h2 ht g.2)
  · intro t S x y T h _ r S2 h2 _ ht hp
    have g := h ht hp
    exact g.trans (h2 ht g.2)
theorem ec47m : es47 mk1 := by
  refine ev47 ec45m ?_
  intro t S r S3 h ht hp
  have g := (mk.refl hp).sx (b := t) (k := 0) (v := S.1 25 4) ht
  have q := h t g.2
  exact (g.trans q.1).sz q.2
theorem ec54m : es54 mk1 := by
  refine ev54 ec45m ?_
  intro t S r S3 h ht hp
  have g := (mk.refl hp).sx (b := t) (k := 0) (v := S.1 25 4) ht
  have q := h t g.2
  exact (g.trans q.1).sz q.2
theorem ec50 : es50 (fun _ _ _ S S_q => S_q = S) := by
  refine ev50 ?_
  intros; rfl
theorem ec49m : es49 (fun a _ _ _ S S_q => ∀ t, (∀ b, a = some b → 72 ≤ b) → mkp t S → mk t S S_q) := by
  refine ev49 (I10 := fun a _ _ _ S _ T => ∀ t, (∀ b, a = some b → 72 ≤ b) → mkp t S → mk t S T) ec50 ?_ ?_ ?_
  · intro a a1 a2 a3 S b e S5 h t _ hp
    rw [h]; exact mk.refl hp
  · intro a a1 a2 a3 S x T h _; exact h
  · intro a a1 a2 a3 S x T h _ b e t hb hp
    exact (h t hb hp).sx (hb b e)
theorem ec51m : es51 (fun _ _ S _ S_q => S_q = S) := by
  refine ev51 ?_ ?_ <;> (intros; rfl)
theorem ec52m : es52 (fun _ _ S _ S_q => S_q = S) := by
  refine ev52 ?_
  intros; rfl
theorem ec53m : es53 (fun _ _ _ S _ S_q => S_q = S) := by
  refine ev53 (I5 := fun _ _ _ S _ _ T => T = S) ?_ ?_ ?_ ?_
  · intros; rfl
  · intro t a b S x y T h _; exact h
  · intro t a b S x y T h _ _ _ _; exact h
  · intro t a b S x y T h _ _ _ _; exact h
/-- keepText: cells below 72 hold the numbers that they held -/
def cc43 (_s _n : Int32) (S S_q : ex_S) : Prop := ∀ a k, a < 72 → S_q.1 a k = S.1 a k
theorem cc43_of {S S7 : ex_S} {c i : Nat} {v : Option Nat} (h72 : 72 ≤ S.2.2.2.2) (h : mk1 S.2.2.2.2 (ex_new S 0) S7) : ∀ a k, a < 72 → (ex_sz S7 c i v).1 a k = S.1 a k := by
  intro a k ha
  have hp : mkp S.2.2.2.2 (ex_new S 0) := ⟨Nat.le_succ_of_le h72, fun j b e => by
    have e : (if S.2.2.2.2 = S.2.2.2.2 then none else S.2.2.1 S.2.2.2.2 j) = some b := e
    rw [if_pos rfl] at e; cases e⟩
  refine ((h h72 hp).1 a k ha).trans ?_
  show (if a = S.2.2.2.2 then 0 else S.1 a k) = S.1 a k
  rw [if_neg (by omega)]
theorem ec48m : es48 mk1 := by
  refine ev48 (I79 := fun t S _ T => mk1 t S T) ec45m ec49m ec51m ec52m ec53m ?_ ?_ ?_ ?_
  · intro t S r2 S3 h3 S7 h7 ht hp
    have g1 := ((mk.refl hp).sx (b := t) (k := 0) (v := S.1 25 8) ht).sx (b := t) (k := 1) (v := (ex_sx S t 0 (S.1 25 8)).1 25 4) ht
    have q3 := h3 t g1.2
    have g3 := (g1.trans q3.1).sz (b := t) (k := 2) (v := r2) q3.2
    have g4 := (g3.new (n := (((S3.1 t 1) + 1) * (S3.1 t 0)).toNatClampNeg)).sz (b := t) (k := 3) (v := some S3.2.2.2.2) (fun c e => by cases e; exact q3.1.2.1)
    have g5 := g4.new (n := ((ex_new (ex_sz S3 t 2 r2) ((((S3.1 t 1) + 1) * (S3.1 t 0)).toNatClampNeg)).1 t 1).toNatClampNeg)
    have g6 := g5.sz (b := t) (k := 4) (v := some ((ex_new (ex_sz S3 t 2 r2) ((((S3.1 t 1) + 1) * (S3.1 t 0)).toNatClampNeg)).2.2.2.2)) (fun c e => by cases e; exact Nat.le_succ_of_le q3.1.2.1)
    exact g6.trans (h7 t (fun b e => g5.2.2 3 b e) g6.2)
  · intro t S x T h _; exact h
  · intro t S x T h _ b e r S14 h14 _ r2 S19 h19 b21 e21 b23 e23 ht hp
    have g := h ht hp
    have g1 := g.cp (a := b) (sp := (x * (T.1 t 0)).toNatClampNeg) (b := b) (dp := ((x + 1) * (T.1 t 0)).toNatClampNeg) (n := (T.1 t 0).toNatClampNeg) (g.2.2 _ _ e)
    rw [h19, h14] at e21 ⊢
    rw [h14] at e23
    have g2 := g1.sx (b := b23) (k := (((x + 1) * (S14.1 t 0)) + r2).toNatClampNeg) (v := (ex_cp T b ((x * (T.1 t 0)).toNatClampNeg) b (((x + 1) * (T.1 t 0)).toNatClampNeg) ((T.1 t 0).toNatClampNeg)).1 b21 (((x * 4) + 2).toNatClampNeg)) (g1.2.2 _ _ e23)
    rw [h14] at g2
    exact g2
  · intro t S x T h _ b e r S14 h14 _ r2 S27 h27 r3 S31 h31 b33 e33 ht hp
    have g := h ht hp
    have g1 := g.cp (a := b) (sp := (x * (T.1 t 0)).toNatClampNeg) (b := b) (dp := ((x + 1) * (T.1 t 0)).toNatClampNeg) (n := (T.1 t 0).toNatClampNeg) (g.2.2 _ _ e)
    rw [h14] at e33
    rw [h31, h27, h14]
    exact g1.sx (g1.2.2 _ _ e33)
theorem ec43m : es43 cc43 := by
  refine ev43 ec44m ec47m ec48m ec54m ?_ ?_ ?_ ?_
  · intro s n S _ h72 S7 h; exact cc43_of h72 h
  · intro s n S _ _ h72 S7 h; exact cc43_of h72 h
  · intro s n S _ _ _ h72 S7 h; exact cc43_of h72 h
  · intro s n S _ _ _ h72 S7 h; exact cc43_of h72 h
/-- text: ok says whether a text is read; the answer, FAULT, place, how many there are -/
def txok (s at_ c most : Int32) : Prop := 0 ≤ s ∧ s ≤ 3 ∧ (at_ = -1 → c < most) ∧ (¬ at_ = -1 → 0 ≤ at_ ∧ at_ < c)
def txC (f p : ex_S → Int32) (ct : ex_S → Nat → Int32) (s at_ most : Int32) (A : pA) (S : ex_S) (v : Int32) (S_q : ex_S) : Prop :=
  (¬ txok s at_ (ct S s.toNatClampNeg) most → v = -2 ∧ f S_q = 0 ∧ p S_q = -1 ∧ ∀ k, k < 4 → ct S_q k = ct S k) ∧
  (txok s at_ (ct S s.toNatClampNeg) most → f S_q = pf A ∧ p S_q = pp A ∧ (¬ pf A = 0 → v = -1 ∧ ∀ k, k < 4 → ct S_q k = ct S k) ∧ (pf A = 0 → v = (if at_ = -1 then ct S s.toNatClampNeg else at_) ∧ ∀ k, k < 4 → ct S_q k = if at_ = -1 ∧ k = s.toNatClampNeg then ct S s.toNatClampNeg + 1 else ct S k))
def cxC (s at_ : Int32) (S : ex_S) (v : Int32) (S_q : ex_S) : Prop := (∀ k, S_q.1 18 k = S.1 18 k) ∧ S_q.1 17 1 = 0 ∧ ∀ n, S.1 17 1 = Int32.ofNat n → cq11 S n → txC (fun S => S.1 17 2) (fun S => S.1 17 3) (fun S => S.1 23) s at_ (ex_st 1 s.toNatClampNeg) (ps_text s (S.1 18) n) S v S_q
def cx0 (S : ex_S) : ex_S := ex_sx (ex_sx (ex_sx S 17 1 0) 17 2 0) 17 3 (-1)
theorem cx0_fx (S : ex_S) : ex_fx (fun c k => c = 17 ∧ 1 ≤ k) S (cx0 S) := (((ex_fx.refl _ S).sx ⟨rfl, by decide⟩).sx ⟨rfl, by decide⟩).sx ⟨rfl, by decide⟩
theorem cx_no {s at_ : Int32} {S : ex_S} (h : ¬ txok s at_ (S.1 23 s.toNatClampNeg) (ex_st 1 s.toNatClampNeg)) : cxC s at_ S (-2) (cx0 S) :=
  ⟨fun k => (cx0_fx S).1 18 k (by omega), rfl, fun n _ _ => ⟨fun _ => ⟨rfl, rfl, rfl, fun k _ => (cx0_fx S).1 23 k (by omega)⟩, fun z => absurd z h⟩⟩
theorem cx_q {S : ex_S} {n : Nat} (h : cq11 S n) : cq11 (cx0 S) n := ⟨h.1, by rw [(cx0_fx S).2]; exact h.2.1, by rw [(cx0_fx S).2]; exact h.2.2.1, by rw [(cx0_fx S).2]; exact h.2.2.2.1, KV_fx (cx0_fx S) (fun a k z => by omega) h.2.2.2.2⟩
/-- what the reader has done -/
theorem cx_rd {s : Int32} {S S8 : ex_S} (h : cc11 (S.1 17 1) s (cx0 S) S8) : (∀ a k, ¬ pP11 a k → S8.1 a k = (cx0 S).1 a k) ∧ ∀ n, S.1 17 1 = Int32.ofNat n → cq11 S n → S8.1 25 1 = pf (ps_text s (S.1 18) n) ∧ S8.1 25 2 = pp (ps_text s (S.1 18) n) := by
  refine ⟨h.1.1, fun n e q => ?_⟩
  have e18 : (cx0 S).1 18 = S.1 18 := by funext j; exact (cx0_fx S).1 18 j (by omega)
  have r := h.2 n e (cx_q q)
  rw [e18] at r
  split at r
  · exact ⟨r.1, r.2.1⟩
  · exact ⟨r.1, r.2.1⟩
theorem cx_bad {s at_ : Int32} {S S8 : ex_S} (ok : txok s at_ (S.1 23 s.toNatClampNeg) (ex_st 1 s.toNatClampNeg)) (h : cc11 (S.1 17 1) s (cx0 S) S8) (c : ¬ (S8.1 25 1 = 0)) : cxC s at_ S (-1) (ex_sx (ex_sx S8 17 2 (S8.1 25 1)) 17 3 (S8.1 25 2)) := by
  obtain ⟨F, r⟩ := cx_rd h
  refine ⟨fun k => ?_, ?_, fun n e q => ⟨fun z => absurd ok z, fun _ => ?_⟩⟩
  · rw [ex_sx_ne (by omega), ex_sx_ne (by omega), F 18 k (by unfold pP11; omega)]
    exact (cx0_fx S).1 18 k (by omega)
  · rw [ex_sx_ne (by omega), ex_sx_ne (by omega), F 17 1 (by unfold pP11; omega)]
    rfl
  · obtain ⟨r1, r2⟩ := r n e q
    refine ⟨?_, ?_, fun _ => ⟨rfl, fun k _ => ?_⟩, fun z => absurd (r1.trans z) c⟩
    · show (ex_sx (ex_sx S8 17 2 (S8.1 25 1)) 17 3 (S8.1 25 2)).1 17 2 = _
      rw [ex_sx_ne (by omega), ex_sx_eq]; exact r1
    · show (ex_sx (ex_sx S8 17 2 (S8.1 25 1)) 17 3 (S8.1 25 2)).1 17 3 = _
      rw [ex_sx_eq]; exact r2
    · show (ex_sx (ex_sx S8 17 2 (S8.1 25 1)) 17 3 (S8.1 25 2)).1 23 k = S.1 23 k
      rw [ex_sx_ne (by omega), ex_sx_ne (by omega), F 23 k (by unfold pP11; omega)]
      exact (cx0_fx S).1 23 k (by omega)
theorem cx_good {s at_ : Int32} {S S8 S13 S_q : ex_S} {v : Int32} (ok : txok s at_ (S.1 23 s.toNatClampNeg) (ex_st 1 s.toNatClampNeg)) (h : cc11 (S.1 17 1) s (cx0 S) S8) (c : S8.1 25 1 = 0) (h13 : ∀ a k, a < 72 → S13.1 a k = (ex_sx (ex_sx S8 17 2 (S8.1 25 1)) 17 3 (S8.1 25 2)).1 a k) (hS : ∀ a k, ¬ a = 23 → S_q.1 a k = S13.1 a k) (h23 : ∀ k, S_q.1 23 k = if at_ = -1 ∧ k = s.toNatClampNeg then S13.1 23 s.toNatClampNeg + 1 else S13.1 23 k) (hv : v = if at_ = -1 then S.1 23 s.toNatClampNeg else at_) : cxC s at_ S v S_q := by
  obtain ⟨F, r⟩ := cx_rd h
  have k13 : ∀ k, S13.1 23 k = S.1 23 k := fun k => by
    rw [h13 23 k (by omega), ex_sx_ne (by omega), ex_sx_ne (by omega), F 23 k (by unfold pP11; omega)]
    exact (cx0_fx S).1 23 k (by omega)
  refine ⟨fun k => ?_, ?_, fun n e q => ⟨fun z => absurd ok z, fun _ => ?_⟩⟩
  · rw [hS 18 k (by omega), h13 18 k (by omega), ex_sx_ne (by omega), ex_sx_ne (by omega), F 18 k (by unfold pP11; omega)]
    exact (cx0_fx S).1 18 k (by omega)
  · rw [hS 17 1 (by omega), h13 17 1 (by omega), ex_sx_ne (by omega), ex_sx_ne (by omega), F 17 1 (by unfold pP11; omega)]
    rfl
  · obtain ⟨r1, r2⟩ := r n e q
    refine ⟨?_, ?_, fun z => absurd (r1.symm.trans c) z, fun _ => ⟨hv, fun k _ => ?_⟩⟩
    · show S_q.1 17 2 = _
      rw [hS 17 2 (by omega), h13 17 2 (by omega), ex_sx_ne (by omega), ex_sx_eq]; exact r1
    · show S_q.1 17 3 = _
      rw [hS 17 3 (by omega), h13 17 3 (by omega), ex_sx_eq]; exact r2
    · show S_q.1 23 k = if at_ = -1 ∧ k = s.toNatClampNeg then S.1 23 s.toNatClampNeg + 1 else S.1 23 k
      rw [h23, k13, k13]
theorem ec10 : es10 cxC := by
  refine ev10 ec11 ec43m ?_ ?_ ?_ ?_ ?_ ?_ ?_ ?_ ?_
  · intro s a S c
    exact cx_no (fun z => Int32.not_le.mpr c z.1)
  · intro s a S c c2 c3 c4
    exact cx_no (fun z => Int32.not_le.mpr c4 (z.2.2.2 c3).1)
  · intro s a S c c2 c3 c4 c5 S8 h8 c6 S13 h13
    refine cx_good ⟨Int32.not_lt.mp c, lt4_le3.mp c2, fun z => absurd z c3, fun _ => ⟨Int32.not_lt.mp c4, c5⟩⟩ h8 c6 h13 (fun _ _ _ => rfl) (fun k => ?_) (if_neg c3).symm
    rw [if_neg (fun z => c3 z.1)]
  · intro s a S c c2 c3 c4 c5 S8 h8 c6
    exact cx_bad ⟨Int32.not_lt.mp c, lt4_le3.mp c2, fun z => absurd z c3, fun _ => ⟨Int32.not_lt.mp c4, c5⟩⟩ h8 c6
  · intro s a S c c2 c3 c4 c5
    exact cx_no (fun z => c5 (z.2.2.2 c3).2)
  · intro s a S c c2 c3 c4 S8 h8 c6 S13 h13
    have c3 := Classical.not_not.mp c3
    refine cx_good ⟨Int32.not_lt.mp c, lt4_le3.mp c2, fun _ => c4, fun z => absurd c3 z⟩ h8 c6 h13 (fun b k hb => ex_sx_ne (fun z => hb z.1)) (fun k => ?_) (if_pos c3).symm
    rw [ex_sx_at]
    by_cases q : k = s.toNatClampNeg
    · rw [if_pos ⟨rfl, q⟩, if_pos ⟨c3, q⟩]
    · rw [if_neg (fun z => q z.2), if_neg (fun z => q z.2)]
  · intro s a S c c2 c3 c4 S8 h8 c6
    have c3 := Classical.not_not.mp c3
    exact cx_bad ⟨Int32.not_lt.mp c, lt4_le3.mp c2, fun _ => c4, fun z => absurd c3 z⟩ h8 c6
  · intro s a S c c2 c3 c4
    have c3 := Classical.not_not.mp c3
    exact cx_no (fun z => c4 (z.2.2.1 c3))
  · intro s a S c c2
    exact cx_no (fun z => c2 (lt4_le3.mpr z.2.1))
end
section
/-! TEXT of the reference -/
/-- row t of rows of w in T is now what cell 51 holds, i numbers of it -/
def sti (T U : Nat → Int32) (w t i j : Nat) : Int32 := if w * t ≤ j ∧ j < w * t + i then U (j - w * t) else T j
theorem sti_0 (T U : Nat → Int32) (w t j : Nat) : sti T U w t 0 j = T j := by
  unfold sti
  rw [if_neg (fun z => by omega)]
theorem sti_s (T U : Nat → Int32) (w t i j : Nat) : sti T U w t (i + 1) j = if j = w * t + i then U i else sti T U w t i j := by
  unfold sti
  by_cases e : j = w * t + i
  · rw [if_pos e, if_pos (show w * t ≤ j ∧ j < w * t + (i + 1) from ⟨by omega, by omega⟩), show j - w * t = i by omega]
  · rw [if_neg e]
    by_cases q : w * t ≤ j ∧ j < w * t + i
    · rw [if_pos q, if_pos (show w * t ≤ j ∧ j < w * t + (i + 1) from ⟨q.1, by omega⟩)]
    · rw [if_neg q, if_neg (show ¬ (w * t ≤ j ∧ j < w * t + (i + 1)) from fun z => q ⟨z.1, by omega⟩)]
def stC (c : Nat) (a1 a2 : Int32) (S S_q : ex_S) : Prop := ex_fx (fun b _ => b = c) S S_q ∧ ∀ w t, a1 = Int32.ofNat w → a2 = Int32.ofNat t → w ≤ 700 → t ≤ 3 → c ≠ 51 → ∀ j, S_q.1 c j = sti (S.1 c) (S.1 51) w t w j
def stI (c : Nat) (a1 a2 : Int32) (S : ex_S) (x : Int32) (T : ex_S) : Prop := ex_fx (fun b _ => b = c) S T ∧ ∀ w t, a1 = Int32.ofNat w → a2 = Int32.ofNat t → w ≤ 700 → t ≤ 3 → c ≠ 51 → ∃ i, i ≤ w ∧ x = Int32.ofNat i ∧ ∀ j, T.1 c j = sti (S.1 c) (S.1 51) w t i j
theorem ec193 : es193 stC := by
  refine ev193 (I3 := stI) ?_ ?_ ?_
  · intro c a1 a2 S
    exact ⟨ex_fx.refl _ S, fun w t _ _ _ _ _ => ⟨0, Nat.zero_le _, rfl, fun j => (sti_0 _ _ _ _ _).symm⟩⟩
  · intro c a1 a2 S x T h q
    refine ⟨h.1, fun w t e1 e2 hw ht hc => ?_⟩
    obtain ⟨i, i1, i2, i3⟩ := h.2 w t e1 e2 hw ht hc
    rw [e1, i2, n32_le (by omega) (by omega)] at q
    have : i = w := by omega
    subst this
    exact i3
  · intro c a1 a2 S x T h q
    refine ⟨h.1.sx rfl, fun w t e1 e2 hw ht hc => ?_⟩
    obtain ⟨i, i1, i2, i3⟩ := h.2 w t e1 e2 hw ht hc
    rw [e1, i2, n32_le (by omega) (by omega)] at q
    refine ⟨i + 1, by omega, by rw [i2]; exact n32_s i, fun j => ?_⟩
    rw [ex_sx_at, e1, e2, i2, ro_ix hw ht (by omega), n32_tn (by omega), h.1.1 51 i (fun z => hc z.symm), sti_s]
    by_cases z : j = w * t + i
    · rw [if_pos ⟨rfl, z⟩, if_pos z]
    · rw [if_neg (fun y => z y.2), if_neg z]; exact i3 j
def rxq (S : ex_S) (n : Nat) : Prop := S.1 43 0 = Int32.ofNat n ∧ n ≤ 600 ∧ (∀ i, sf_B (-128) 127 (S.1 42 i)) ∧ ∀ k, k < 4 → sf_B 0 3 (S.1 46 k) ∧ S.1 46 k ≤ vf176 (Int32.ofNat k)
/-- rows other than the first stay -/
def rxo (S S_q : ex_S) : Prop := (∀ j, 1 ≤ j → S_q.1 43 j = S.1 43 j ∧ S_q.1 44 j = S.1 44 j ∧ S_q.1 45 j = S.1 45 j) ∧ (∀ j, 4 ≤ j → S_q.1 46 j = S.1 46 j) ∧ ∀ k, S_q.1 71 k = S.1 71 k
def rxC (s at_ : Int32) (S : ex_S) (v : Int32) (S_q : ex_S) : Prop := (∀ k, S_q.1 42 k = S.1 42 k) ∧ S_q.1 43 0 = 0 ∧ ∀ n, rxq S n → rxo S S_q ∧ txC (fun S => S.1 44 0) (fun S => S.1 45 0) (fun S => S.1 46) s at_ (vf176 s) (ps_text s (S.1 42) n) S v S_q
def rx0 (S : ex_S) : ex_S := ex_sx (ex_sx (ex_sx (ex_sx (ex_sx S 41 0 0) 41 11 (S.1 43 0)) 43 0 0) 44 0 0) 45 0 (-1)
theorem rx0_fx (S : ex_S) : ex_fx (fun c k => (c = 41 ∧ (k = 0 ∨ k = 11)) ∨ ((c = 43 ∨ c = 44 ∨ c = 45) ∧ k = 0)) S (rx0 S) :=
  (((((ex_fx.refl _ S).sx (by omega)).sx (by omega)).sx (by omega)).sx (by omega)).sx (by omega)
theorem rx_no {s at_ : Int32} {S : ex_S} (h : ∀ n, rxq S n → ¬ txok s at_ (S.1 46 s.toNatClampNeg) (vf176 s)) : rxC s at_ S (-2) (rx0 S) :=
  ⟨fun k => (rx0_fx S).1 42 k (by omega), rfl, fun n q => ⟨⟨fun j hj => ⟨(rx0_fx S).1 43 j (by omega), (rx0_fx S).1 44 j (by omega), (rx0_fx S).1 45 j (by omega)⟩, fun j _ => (rx0_fx S).1 46 j (by omega), fun k => (rx0_fx S).1 71 k (by omega)⟩, fun _ => ⟨rfl, rfl, rfl, fun k _ => (rx0_fx S).1 46 k (by omega)⟩, fun z => absurd z (h n q)⟩⟩
theorem rx_q {S : ex_S} {n : Nat} (q : rxq S n) : rq178 (rx0 S) n ∧ (rx0 S).1 42 = S.1 42 := by
  have e : (rx0 S).1 42 = S.1 42 := by funext j; exact (rx0_fx S).1 42 j (by omega)
  refine ⟨⟨?_, q.2.1, fun i => by rw [e]; exact q.2.2.1 i⟩, e⟩
  show (rx0 S).1 41 11 = _
  unfold rx0
  rw [ex_sx_ne (by omega), ex_sx_ne (by omega), ex_sx_ne (by omega), ex_sx_eq]; exact q.1
/-- what the reader has done -/
theorem rx_rd {s r : Int32} {S S9 : ex_S} (h : rc178 s (rx0 S) r S9) : (∀ a k, ¬ rpt a k → S9.1 a k = (rx0 S).1 a k) ∧ ∀ n, rxq S n → S9.1 44 0 = pf (ps_text s (S.1 42) n) ∧ S9.1 45 0 = pp (ps_text s (S.1 42) n) ∧ (∀ j, 1 ≤ j → S9.1 44 j = S.1 44 j ∧ S9.1 45 j = S.1 45 j) ∧ (r = 0 ↔ pf (ps_text s (S.1 42) n) ≠ 0) := by
  refine ⟨h.1.1, fun n q => ?_⟩
  obtain ⟨q1, e⟩ := rx_q q
  have g := h.2 n q1
  rw [e] at g
  exact ⟨g.1, g.2.1, fun j hj => ⟨(g.2.2.1 j hj).1.trans ((rx0_fx S).1 44 j (by omega)), (g.2.2.1 j hj).2.trans ((rx0_fx S).1 45 j (by omega))⟩, g.2.2.2.1⟩
theorem rx_bad {s at_ r : Int32} {S S9 : ex_S} (ok : ∀ n, rxq S n → txok s at_ (S.1 46 s.toNatClampNeg) (vf176 s)) (h : rc178 s (rx0 S) r S9) (c : r = 0) : rxC s at_ S (-1) S9 := by
  obtain ⟨F, g⟩ := rx_rd h
  refine ⟨fun k => ?_, ?_, fun n q => ?_⟩
  · rw [F 42 k (by unfold rpt rpl; omega)]; exact (rx0_fx S).1 42 k (by omega)
  · rw [F 43 0 (by unfold rpt rpl; omega)]; rfl
  · obtain ⟨g1, g2, g3, g4⟩ := g n q
    refine ⟨⟨fun j hj => ⟨?_, g3 j hj⟩, fun j _ => ?_, fun k => ?_⟩, fun z => absurd (ok n q) z, fun _ => ⟨g1, g2, fun _ => ⟨rfl, fun k _ => ?_⟩, fun z => absurd z (g4.mp c)⟩⟩
    · rw [F 43 j (by unfold rpt rpl; omega)]; exact (rx0_fx S).1 43 j (by omega)
    · rw [F 46 j (by unfold rpt rpl; omega)]; exact (rx0_fx S).1 46 j (by omega)
    · rw [F 71 k (by unfold rpt rpl; omega)]; exact (rx0_fx S).1 71 k (by omega)
    · show S9.1 46 k = S.1 46 k
      rw [F 46 k (by unfold rpt rpl; omega)]; exact (rx0_fx S).1 46 k (by omega)
theorem rx_good {s at_ r v : Int32} {S S9 S_q : ex_S} {b : Nat} {w at2 d : Int32} (ok : ∀ n, rxq S n → txok s at_ (S.1 46 s.toNatClampNeg) (vf176 s)) (h : rc178 s (rx0 S) r S9) (c : ¬ r = 0) (hb : 47 ≤ b ∧ b ≤ 50) (h2 : stC b w at2 (ex_sx S9 46 s.toNatClampNeg ((S9.1 46 s.toNatClampNeg) + d)) S_q) (hd : d = if at_ = -1 then 1 else 0) (hv : v = if at_ = -1 then S9.1 46 s.toNatClampNeg else at_) (hs : 0 ≤ s ∧ s ≤ 3) : rxC s at_ S v S_q := by
  obtain ⟨F, g⟩ := rx_rd h
  have s4 : s.toNatClampNeg < 4 := by
    have h1 := Int32.le_iff_toInt_le.mp hs.1
    have h3 := Int32.le_iff_toInt_le.mp hs.2
    have e0 : (0 : Int32).toInt = 0 := rfl
    have e3 : (3 : Int32).toInt = 3 := rfl
    rw [e0] at h1; rw [e3] at h3
    show s.toInt.toNat < 4
    omega
  have K : ∀ a k, ¬ (a = 46 ∧ k = s.toNatClampNeg) → ¬ a = b → ¬ rpt a k → S_q.1 a k = (rx0 S).1 a k := fun a k z1 z2 z3 => by
    rw [h2.1.1 a k z2, ex_sx_ne z1, F a k z3]
  have k46 : ∀ k, S_q.1 46 k = if at_ = -1 ∧ k = s.toNatClampNeg then S.1 46 s.toNatClampNeg + 1 else S.1 46 k := fun k => by
    have e9 : ∀ k, S9.1 46 k = S.1 46 k := fun k => by rw [F 46 k (by unfold rpt rpl; omega)]; exact (rx0_fx S).1 46 k (by omega)
    rw [h2.1.1 46 k (by omega), ex_sx_at, e9, e9, hd]
    by_cases z : k = s.toNatClampNeg
    · rw [if_pos ⟨rfl, z⟩]
      by_cases y : at_ = -1
      · rw [if_pos y, if_pos ⟨y, z⟩]
      · rw [if_neg y, if_neg (fun w => y w.1), z]; exact Int32.add_zero _
    · rw [if_neg (fun w => z w.2), if_neg (fun w => z w.2)]
  refine ⟨fun k => ?_, ?_, fun n q => ?_⟩
  · rw [K 42 k (by omega) (by omega) (by unfold rpt rpl; omega)]; exact (rx0_fx S).1 42 k (by omega)
  · rw [K 43 0 (by omega) (by omega) (by unfold rpt rpl; omega)]; rfl
  · obtain ⟨g1, g2, g3, g4⟩ := g n q
    have l44 : ∀ k, S_q.1 44 k = S9.1 44 k := fun k => by rw [h2.1.1 44 k (by omega), ex_sx_ne (by omega)]
    have l45 : ∀ k, S_q.1 45 k = S9.1 45 k := fun k => by rw [h2.1.1 45 k (by omega), ex_sx_ne (by omega)]
    have pz : pf (ps_text s (S.1 42) n) = 0 := Classical.not_not.mp (fun z => c (g4.mpr z))
    refine ⟨⟨fun j hj => ⟨?_, (l44 j).trans (g3 j hj).1, (l45 j).trans (g3 j hj).2⟩, fun j hj => ?_, fun k => ?_⟩, fun z => absurd (ok n q) z, fun _ => ⟨(l44 0).trans g1, (l45 0).trans g2, fun z => absurd pz z, fun _ => ⟨?_, fun k _ => k46 k⟩⟩⟩
    · rw [K 43 j (by omega) (by omega) (by unfold rpt rpl; omega)]; exact (rx0_fx S).1 43 j (by omega)
    · rw [k46, if_neg (fun z => by omega)]
    · rw [K 71 k (by omega) (by omega) (by unfold rpt rpl; omega)]; exact (rx0_fx S).1 71 k (by omega)
    · rw [hv]
      by_cases y : at_ = -1
      · rw [if_pos y, if_pos y, F 46 _ (by unfold rpt rpl; omega)]; exact (rx0_fx S).1 46 _ (by omega)
      · rw [if_neg y, if_neg y]
theorem vf174_y {v lo hi : Int32} (h : ¬ vf174 v lo hi = 0) : lo ≤ v ∧ v ≤ hi := by
  unfold vf174 at h
  rw [vf_0] at h
  exact Classical.not_not.mp h
theorem vf174_n {v lo hi : Int32} (h : vf174 v lo hi = 0) : ¬ (lo ≤ v ∧ v ≤ hi) := by
  unfold vf174 at h
  rw [vf_0] at h
  exact h
/-- the two ways of asking whether there is room, whether it is there -/
theorem rx_at {s c a : Int32} (hc : sf_B 0 3 c) : (0 ≤ a ∧ a ≤ c - 1) ↔ (0 ≤ a ∧ a < c) := by
  obtain ⟨c0, c3⟩ := hc
  have e : (c - 1).toInt = c.toInt - 1 := by
    rw [Int32.toInt_sub, show (1 : Int32).toInt = 1 from rfl]
    exact Int.bmod_eq_of_le (by omega) (by omega)
  rw [Int32.le_iff_toInt_le (x := a) (y := c - 1), e, Int32.lt_iff_toInt_lt (x := a) (y := c)]
  constructor
  · intro z; exact ⟨z.1, by omega⟩
  · intro z; exact ⟨z.1, by omega⟩
theorem s4_of {s : Int32} (hs : 0 ≤ s ∧ s ≤ 3) : s.toNatClampNeg < 4 ∧ s = Int32.ofNat s.toNatClampNeg := by
  have h1 := Int32.le_iff_toInt_le.mp hs.1
  have h3 := Int32.le_iff_toInt_le.mp hs.2
  have e0 : (0 : Int32).toInt = 0 := rfl
  have e3 : (3 : Int32).toInt = 3 := rfl
  rw [e0] at h1; rw [e3] at h3
  have e : s.toNatClampNeg = s.toInt.toNat := rfl
  have l : s.toNatClampNeg < 4 := by omega
  refine ⟨l, ?_⟩
  apply Int32.toInt_inj.mp
  rw [n32_i (by omega)]
  omega
theorem rx_ok1 {s a : Int32} {S : ex_S} (c : ¬ (vf174 s 0 3 = 0)) (c1 : ¬ a = (-1)) (c2 : ¬ vf174 a 0 ((S.1 46 s.toNatClampNeg) - 1) = 0) (n : Nat) (q : rxq S n) : txok s a (S.1 46 s.toNatClampNeg) (vf176 s) :=
  ⟨(vf174_y c).1, (vf174_y c).2, fun z => absurd z c1, fun _ => (rx_at (s := s) (q.2.2.2 _ (s4_of (vf174_y c)).1).1).mp (vf174_y c2)⟩
theorem rx_ok2 {s a : Int32} {S : ex_S} (c : ¬ (vf174 s 0 3 = 0)) (c1 : a = (-1)) (c2 : ¬ S.1 46 s.toNatClampNeg = vf176 s) (n : Nat) (q : rxq S n) : txok s a (S.1 46 s.toNatClampNeg) (vf176 s) := by
  obtain ⟨s4, es⟩ := s4_of (vf174_y c)
  refine ⟨(vf174_y c).1, (vf174_y c).2, fun _ => ?_, fun z => absurd c1 z⟩
  have g := (q.2.2.2 _ s4).2
  rw [← es] at g
  rcases Int32.lt_or_eq_of_le g with z | z
  · exact z
  · exact absurd z c2
theorem ec175 : es175 rxC := by
  refine ev175 ec178 ec193 ?_ ?_ ?_ ?_ ?_ ?_ ?_ ?_ ?_ ?_ ?_ ?_ ?_
  · intro s a S c
    exact rx_no (fun n q z => vf174_n c ⟨z.1, z.2.1⟩)
  · intro s a S c c1 c2 r S9 h9 c3 _ S_q h_q
    exact rx_good (rx_ok1 c c1 c2) h9 c3 (by omega) h_q (if_neg c1).symm (if_neg c1).symm (vf174_y c)
  · intro s a S c c1 c2 r S9 h9 c3 _ _ S_q h_q
    exact rx_good (rx_ok1 c c1 c2) h9 c3 (by omega) h_q (if_neg c1).symm (if_neg c1).symm (vf174_y c)
  · intro s a S c c1 c2 r S9 h9 c3 _ _ _ S_q h_q
    exact rx_good (rx_ok1 c c1 c2) h9 c3 (by omega) h_q (if_neg c1).symm (if_neg c1).symm (vf174_y c)
  · intro s a S c c1 c2 r S9 h9 c3 _ _ _ S_q h_q
    exact rx_good (rx_ok1 c c1 c2) h9 c3 (by omega) h_q (if_neg c1).symm (if_neg c1).symm (vf174_y c)
  · intro s a S c c1 c2 r S9 h9 c3
    exact rx_bad (rx_ok1 c c1 c2) h9 (Classical.not_not.mp c3)
  · intro s a S c c1 c2
    refine rx_no (fun n q z => vf174_n (Classical.not_not.mp c2) ?_)
    exact (rx_at (s := s) (q.2.2.2 _ (s4_of (vf174_y c)).1).1).mpr (z.2.2.2 c1)
  · intro s a S c c1 c2 r S9 h9 c3 _ S_q h_q
    have c1 := Classical.not_not.mp c1
    exact rx_good (rx_ok2 c c1 c2) h9 c3 (by omega) h_q (if_pos c1).symm (if_pos c1).symm (vf174_y c)
  · intro s a S c c1 c2 r S9 h9 c3 _ _ S_q h_q
    have c1 := Classical.not_not.mp c1
    exact rx_good (rx_ok2 c c1 c2) h9 c3 (by omega) h_q (if_pos c1).symm (if_pos c1).symm (vf174_y c)
  · intro s a S c c1 c2 r S9 h9 c3 _ _ _ S_q h_q
    have c1 := Classical.not_not.mp c1
    exact rx_good (rx_ok2 c c1 c2) h9 c3 (by omega) h_q (if_pos c1).symm (if_pos c1).symm (vf174_y c)
  · intro s a S c c1 c2 r S9 h9 c3 _ _ _ S_q h_q
    have c1 := Classical.not_not.mp c1
    exact rx_good (rx_ok2 c c1 c2) h9 c3 (by omega) h_q (if_pos c1).symm (if_pos c1).symm (vf174_y c)
  · intro s a S c c1 c2 r S9 h9 c3
    exact rx_bad (rx_ok2 c (Classical.not_not.mp c1) c2) h9 (Classical.not_not.mp c3)
  · intro s a S c c1 c2
    have c1 := Classical.not_not.mp c1
    have c2 := Classical.not_not.mp c2
    refine rx_no (fun n q z => ?_)
    have l := z.2.2.1 c1
    rw [c2] at l
    exact Int32.lt_irrefl l
end
section
/-! WHAT BOTH SIDES WERE TOLD: the same -/
/-- the object t of the class and row k of the reference -/
def teq (S : ex_S) (t k : Nat) : Prop := (∀ j, j < 600 → S.1 (t + 1) j = S.1 42 (600 * k + j)) ∧ (∀ j, 1 ≤ j → j ≤ 3 → S.1 t j = S.1 (42 + j) k) ∧ ∀ s, s < 4 → S.1 (t + 6) s = S.1 46 (4 * k + s)
def R1 (S : ex_S) : Prop := teq S 17 0 ∧ (∀ i b, i < 3 → S.2.2.1 24 i = some b → 72 ≤ b ∧ teq S b (i + 1)) ∧ (∀ i, i < 3 → (S.2.2.1 24 i = none ↔ S.1 71 i = 0)) ∧ ∀ i, sf_B (-128) 127 (S.1 42 i)
/-- object t becomes what a was; row t what f was -/
def blkEq (S S_q : ex_S) (a t : Nat) : Prop := (∀ j, j < 600 → S_q.1 (t + 1) j = S.1 (a + 1) j) ∧ (∀ j, 1 ≤ j → j ≤ 3 → S_q.1 t j = S.1 a j) ∧ ∀ s, s < 4 → S_q.1 (t + 6) s = S.1 (a + 6) s
def rowEq (S S_q : ex_S) (f t : Nat) : Prop := (∀ j, j < 600 → S_q.1 42 (600 * t + j) = S.1 42 (600 * f + j)) ∧ (∀ j, 1 ≤ j → j ≤ 3 → S_q.1 (42 + j) t = S.1 (42 + j) f) ∧ ∀ s, s < 4 → S_q.1 46 (4 * t + s) = S.1 46 (4 * f + s)
theorem teq.mk' {S S_q : ex_S} {a t f r : Nat} (h : teq S a f) (b : blkEq S S_q a t) (w : rowEq S S_q f r) : teq S_q t r :=
  ⟨fun j hj => by rw [b.1 j hj, w.1 j hj]; exact h.1 j hj, fun j h1 h3 => by rw [b.2.1 j h1 h3, w.2.1 j h1 h3]; exact h.2.1 j h1 h3, fun s hs => by rw [b.2.2 s hs, w.2.2 s hs]; exact h.2.2 s hs⟩
theorem blkEq.trans {S T U : ex_S} {a b c : Nat} (x : blkEq S T a b) (y : blkEq T U b c) : blkEq S U a c :=
  ⟨fun j hj => (y.1 j hj).trans (x.1 j hj), fun j h1 h3 => (y.2.1 j h1 h3).trans (x.2.1 j h1 h3), fun s hs => (y.2.2 s hs).trans (x.2.2 s hs)⟩
theorem rowEq.trans {S T U : ex_S} {a b c : Nat} (x : rowEq S T a b) (y : rowEq T U b c) : rowEq S U a c :=
  ⟨fun j hj => (y.1 j hj).trans (x.1 j hj), fun j h1 h3 => (y.2.1 j h1 h3).trans (x.2.1 j h1 h3), fun s hs => (y.2.2 s hs).trans (x.2.2 s hs)⟩
theorem blkEq.of {S S_q : ex_S} {t : Nat} (h : ∀ c j, t ≤ c → c < t + 7 → S_q.1 c j = S.1 c j) : blkEq S S_q t t :=
  ⟨fun j _ => h _ _ (by omega) (by omega), fun j _ _ => h _ _ (by omega) (by omega), fun s _ => h _ _ (by omega) (by omega)⟩
theorem rowEq.of {S S_q : ex_S} {k : Nat} (h : ∀ c j, 42 ≤ c → c ≤ 46 → S_q.1 c j = S.1 c j) : rowEq S S_q k k :=
  ⟨fun j _ => h _ _ (by omega) (by omega), fun j _ _ => h _ _ (by omega) (by omega), fun s _ => h _ _ (by omega) (by omega)⟩
/-- nothing that was told has changed -/
theorem R1.keep {S S_q : ex_S} (R : R1 S) (h : ∀ c j, (17 ≤ c ∧ c ≤ 23) ∨ (42 ≤ c ∧ c ≤ 46) ∨ c = 71 → S_q.1 c j = S.1 c j) (h24 : ∀ i, S_q.2.2.1 24 i = S.2.2.1 24 i) (im : ∀ i b, i < 3 → S.2.2.1 24 i = some b → ∀ c j, b ≤ c → c < b + 7 → S_q.1 c j = S.1 c j) : R1 S_q := by
  refine ⟨R.1.mk' (blkEq.of (fun c j _ _ => h c j (by omega))) (rowEq.of (fun c j _ _ => h c j (by omega))), fun i b hi eb => ?_, fun i hi => ?_, fun i => ?_⟩
  · rw [h24] at eb
    obtain ⟨b72, te⟩ := R.2.1 i b hi eb
    exact ⟨b72, te.mk' (blkEq.of (fun c j c1 c2 => im i b hi eb c j c1 c2)) (rowEq.of (fun c j _ _ => h c j (by omega)))⟩
  · rw [h24, h 71 i (by omega)]; exact R.2.2.1 i hi
  · rw [h 42 i (by omega)]; exact R.2.2.2 i
theorem fwi_out {T : Nat → Int32} {n : Nat} {a : Int32} {i j : Nat} (h : n + i ≤ j) : fwi T n a i j = T j := by
  unfold fwi
  rw [if_neg (fun z => by omega)]
theorem fw5_out {T : Nat → Int32} {n : Nat} {a0 a1 a2 a3 a4 : Int32} {j : Nat} (h : n + 20 ≤ j) : fw5 T n a0 a1 a2 a3 a4 j = T j := by
  unfold fw5
  rw [fwi_out (by omega), fwi_out (by omega), fwi_out (by omega), fwi_out (by omega), fwi_out (by omega)]
theorem fb_B (a x : Int32) : sf_B (-128) 127 (fb a x) := by
  unfold fb
  generalize ((a >>> (x &&& 31)).toInt8.toInt32).toInt8 = y
  have h1 := y.le_toInt
  have h2 := y.toInt_lt
  unfold sf_B
  rw [Int8.toInt_toInt32]
  omega
theorem fwi_B {T : Nat → Int32} {n : Nat} {a : Int32} {i j : Nat} (h : sf_B (-128) 127 (T j)) : sf_B (-128) 127 (fwi T n a i j) := by
  unfold fwi
  split
  · exact fb_B _ _
  · exact h
theorem fw5_B {T : Nat → Int32} {n : Nat} {a0 a1 a2 a3 a4 : Int32} {j : Nat} (h : sf_B (-128) 127 (T j)) : sf_B (-128) 127 (fw5 T n a0 a1 a2 a3 a4 j) := fwi_B (fwi_B (fwi_B (fwi_B (fwi_B h))))
theorem R_feed {a0 a1 a2 a3 a4 v w : Int32} {S S1 S2 : ex_S} {n : Nat} (e : S.1 17 1 = Int32.ofNat n) (hn : n ≤ 600) (R : R1 S) (h1 : fF 18 17 1 a0 a1 a2 a3 a4 S v S1) (h2 : fF 42 43 0 a0 a1 a2 a3 a4 S1 w S2) : v = w ∧ R1 S2 := by
  obtain ⟨F1, g1⟩ := h1
  obtain ⟨F2, g2⟩ := h2
  have k1 : ∀ a k, ¬ a = 18 → ¬ (a = 17 ∧ k = 1) → ¬ a = 41 → S1.1 a k = S.1 a k := fun a k z1 z2 z3 => F1.1 a k (by unfold fP; omega)
  have k2 : ∀ a k, ¬ a = 42 → ¬ (a = 43 ∧ k = 0) → ¬ a = 41 → S2.1 a k = S1.1 a k := fun a k z1 z2 z3 => F2.1 a k (by unfold fP; omega)
  have kk : ∀ a k, ¬ a = 18 → ¬ a = 42 → ¬ (a = 17 ∧ k = 1) → ¬ (a = 43 ∧ k = 0) → ¬ a = 41 → S2.1 a k = S.1 a k := fun a k z1 z2 z3 z4 z5 => (k2 a k z2 z4 z5).trans (k1 a k z1 z3 z5)
  have e17 : S.1 17 1 = S.1 43 0 := R.1.2.1 1 (by omega) (by omega)
  have e2 : S1.1 43 0 = Int32.ofNat n := by rw [k1 43 0 (by omega) (by omega) (by omega), ← e17]; exact e
  have g1 := g1 n e hn
  have g2 := g2 n e2 hn
  have c42 : S1.1 42 = S.1 42 := by funext j; exact k1 42 j (by omega) (by omega) (by omega)
  have fin : (∀ j, 600 ≤ j → S2.1 42 j = S.1 42 j) → (∀ i, sf_B (-128) 127 (S2.1 42 i)) → (∀ j, j < 600 → S2.1 18 j = S2.1 42 j) → S2.1 17 1 = S2.1 43 0 → R1 S2 := by
    intro o b t s
    refine ⟨⟨fun j hj => ?_, fun j j1 j3 => ?_, fun x hx => ?_⟩, fun i b hi eb => ?_, fun i hi => ?_, b⟩
    · rw [show 600 * 0 + j = j by omega]; exact t j hj
    · by_cases q : j = 1
      · subst q; exact s
      · rw [kk 17 j (by omega) (by omega) (by omega) (by omega) (by omega), kk (42 + j) 0 (by omega) (by omega) (by omega) (by omega) (by omega)]
        exact R.1.2.1 j j1 j3
    · rw [kk (17 + 6) x (by omega) (by omega) (by omega) (by omega) (by omega), kk 46 _ (by omega) (by omega) (by omega) (by omega) (by omega)]
      exact R.1.2.2 x hx
    · rw [F2.2, F1.2] at eb
      obtain ⟨b72, te⟩ := R.2.1 i b hi eb
      refine ⟨b72, te.mk' (blkEq.of (fun c j c1 _ => kk c j (by omega) (by omega) (by omega) (by omega) (by omega))) ⟨fun j _ => o _ (by omega), fun j j1 j3 => kk _ _ (by omega) (by omega) (by omega) (by omega) (by omega), fun s _ => kk _ _ (by omega) (by omega) (by omega) (by omega) (by omega)⟩⟩
    · rw [F2.2, F1.2, kk 71 i (by omega) (by omega) (by omega) (by omega) (by omega)]; exact R.2.2.1 i hi
  by_cases q : n ≤ 580
  · obtain ⟨v1, s1, t1⟩ := g1.1 q
    obtain ⟨w1, s2, t2⟩ := g2.1 q
    rw [c42] at t2
    refine ⟨v1.trans w1.symm, fin (fun j hj => by rw [t2, fw5_out (by omega)]) (fun i => by rw [t2]; exact fw5_B (R.2.2.2 i)) (fun j hj => ?_) ?_⟩
    · have z := R.1.1 j hj
      rw [show 600 * 0 + j = j by omega] at z
      rw [k2 18 j (by omega) (by omega) (by omega), t1, t2]
      exact fw5_cg z
    · rw [k2 17 1 (by omega) (by omega) (by omega), s1, s2]
  · obtain ⟨v1, s1, t1⟩ := g1.2 q
    obtain ⟨w1, s2, t2⟩ := g2.2 q
    rw [c42] at t2
    refine ⟨v1.trans w1.symm, fin (fun j hj => t2 j) (fun i => by rw [t2]; exact R.2.2.2 i) (fun j hj => ?_) ?_⟩
    · have z := R.1.1 j hj
      rw [show 600 * 0 + j = j by omega] at z
      rw [k2 18 j (by omega) (by omega) (by omega), t1, t2]
      exact z
    · rw [k2 17 1 (by omega) (by omega) (by omega), s1, s2, k1 43 0 (by omega) (by omega) (by omega)]
      exact e17
theorem R_end {a v w : Int32} {S S1 S2 : ex_S} (R : R1 S) (h1 : eE 17 1 a S v S1) (h2 : eE 43 0 a S1 w S2) : v = w ∧ R1 S2 := by
  obtain ⟨F1, y1, n1⟩ := h1
  obtain ⟨F2, y2, n2⟩ := h2
  have k1 : ∀ a k, ¬ (a = 17 ∧ k = 1) → ¬ a = 41 → S1.1 a k = S.1 a k := fun a k z2 z3 => F1.1 a k (by omega)
  have k2 : ∀ a k, ¬ (a = 43 ∧ k = 0) → ¬ a = 41 → S2.1 a k = S1.1 a k := fun a k z2 z3 => F2.1 a k (by omega)
  have k : ∀ a k, ¬ (a = 17 ∧ k = 1) → ¬ (a = 43 ∧ k = 0) → ¬ a = 41 → S2.1 a k = S.1 a k := fun a j z1 z2 z3 => (k2 a j z2 z3).trans (k1 a j z1 z3)
  have e17 : S.1 17 1 = S.1 43 0 := R.1.2.1 1 (by omega) (by omega)
  have e2 : S1.1 43 0 = S.1 17 1 := by rw [k1 43 0 (by omega) (by omega)]; exact e17.symm
  rw [e2] at y2 n2
  have fin : S2.1 17 1 = S2.1 43 0 → R1 S2 := by
    intro z
    refine ⟨⟨fun j hj => ?_, fun j j1 j3 => ?_, fun s hs => ?_⟩, fun i b hi eb => ?_, fun i hi => ?_, fun i => ?_⟩
    · rw [k (17 + 1) _ (by omega) (by omega) (by omega), k 42 _ (by omega) (by omega) (by omega)]; exact R.1.1 j hj
    · by_cases q : j = 1
      · subst q; exact z
      · rw [k 17 j (by omega) (by omega) (by omega), k (42 + j) 0 (by omega) (by omega) (by omega)]; exact R.1.2.1 j j1 j3
    · rw [k (17 + 6) _ (by omega) (by omega) (by omega), k 46 _ (by omega) (by omega) (by omega)]; exact R.1.2.2 s hs
    · rw [F2.2, F1.2] at eb
      obtain ⟨b72, te⟩ := R.2.1 i b hi eb
      exact ⟨b72, te.mk' (blkEq.of (fun c j c1 _ => k c j (by omega) (by omega) (by omega))) ⟨fun j _ => k _ _ (by omega) (by omega) (by omega), fun j j1 j3 => k _ _ (by omega) (by omega) (by omega), fun s _ => k _ _ (by omega) (by omega) (by omega)⟩⟩
    · rw [F2.2, F1.2, k 71 i (by omega) (by omega) (by omega)]; exact R.2.2.1 i hi
    · rw [k 42 i (by omega) (by omega) (by omega)]; exact R.2.2.2 i
  have s17 : S2.1 17 1 = S1.1 17 1 := k2 17 1 (by omega) (by omega)
  by_cases q : 0 ≤ a ∧ a ≤ S.1 17 1
  · obtain ⟨v1, s1⟩ := y1 q
    obtain ⟨w1, s2⟩ := y2 q
    exact ⟨v1.trans w1.symm, fin (by rw [s17, s1, s2])⟩
  · obtain ⟨v1, s1⟩ := n1 q
    obtain ⟨w1, s2⟩ := n2 q
    exact ⟨v1.trans w1.symm, fin (by rw [s17, s1, s2])⟩
end
section
/-! TEXT keeps what both sides were told the same -/
theorem most_eq {s : Int32} (h0 : 0 ≤ s) (h3 : s ≤ 3) : ex_st 1 s.toNatClampNeg = vf176 s := by
  obtain ⟨l, e⟩ := s4_of ⟨h0, h3⟩
  generalize hk : s.toNatClampNeg = k at l e
  rw [e]
  match k, l with
  | 0, _ => rfl
  | 1, _ => rfl
  | 2, _ => rfl
  | 3, _ => rfl
  | k + 4, h => exact absurd h (by omega)
theorem R_text {s a v w : Int32} {S S1 S2 : ex_S} {n : Nat} (e : S.1 17 1 = Int32.ofNat n) (q : cq11 S n) (R : R1 S) (h1 : cxC s a S v S1) (k1 : ∀ c j, 41 ≤ c → c < 72 → S1.1 c j = S.1 c j) (z1 : ∀ i, S1.2.2.1 24 i = S.2.2.1 24 i) (i1 : ∀ i b, i < 3 → S.2.2.1 24 i = some b → ∀ c j, b ≤ c → c < b + 7 → S1.1 c j = S.1 c j) (rq : rxq S1 n) (h2 : rxC s a S1 w S2) (k2 : ∀ c j, c < 41 ∨ 71 < c → S2.1 c j = S1.1 c j) (z2 : ∀ i, S2.2.2.1 24 i = S1.2.2.1 24 i) : v = w ∧ R1 S2 := by
  obtain ⟨t1, s1, g1⟩ := h1
  obtain ⟨t2, s2, g2⟩ := h2
  obtain ⟨o2, g2⟩ := g2 n rq
  have g1 := g1 n e q
  have e42 : ∀ j, S1.1 42 j = S.1 42 j := fun j => k1 42 j (by omega) (by omega)
  have eA : ps_text s (S1.1 42) n = ps_text s (S.1 18) n := by
    refine cg_text (fun j hj => ?_) s
    have z := R.1.1 j (by have := q.1; omega)
    rw [show 600 * 0 + j = j by omega] at z
    rw [e42]; exact z.symm
  rw [eA] at g2
  generalize ps_text s (S.1 18) n = A at g1 g2
  have c0 : ∀ k, k < 4 → S1.1 46 k = S.1 23 k := fun k hk => by
    have z := R.1.2.2 k hk
    rw [show 4 * 0 + k = k by omega] at z
    rw [k1 46 k (by omega) (by omega)]; exact z.symm
  have fin : S1.1 17 2 = S2.1 44 0 → S1.1 17 3 = S2.1 45 0 → (∀ k, k < 4 → S1.1 23 k = S2.1 46 k) → R1 S2 := by
    intro hf hp hc
    refine ⟨⟨fun j hj => ?_, fun j j1 j3 => ?_, fun x hx => ?_⟩, fun i b hi eb => ?_, fun i hi => ?_, fun i => ?_⟩
    · rw [k2 (17 + 1) j (by omega), t1, t2, e42]; exact R.1.1 j hj
    · rw [k2 17 j (by omega)]
      rcases (show j = 1 ∨ j = 2 ∨ j = 3 by omega) with rfl | rfl | rfl
      · exact s1.trans s2.symm
      · exact hf
      · exact hp
    · rw [k2 (17 + 6) x (by omega), show 4 * 0 + x = x by omega]; exact hc x hx
    · rw [z2, z1] at eb
      obtain ⟨b72, te⟩ := R.2.1 i b hi eb
      refine ⟨b72, te.mk' (blkEq.of (fun c j c1 c2 => (k2 c j (by omega)).trans (i1 i b hi eb c j c1 c2))) ⟨fun j _ => (t2 _).trans (e42 _), fun j j1 j3 => ?_, fun s _ => (o2.2.1 _ (by omega)).trans (k1 46 _ (by omega) (by omega))⟩⟩
      have o := o2.1 (i + 1) (by omega)
      refine Eq.trans ?_ (k1 (42 + j) (i + 1) (by omega) (by omega))
      rcases (show j = 1 ∨ j = 2 ∨ j = 3 by omega) with rfl | rfl | rfl
      · exact o.1
      · exact o.2.1
      · exact o.2.2
    · rw [z2, z1, o2.2.2, k1 71 i (by omega) (by omega)]; exact R.2.2.1 i hi
    · rw [t2, e42]; exact R.2.2.2 i
  have ok : txok s a (S.1 23 s.toNatClampNeg) (ex_st 1 s.toNatClampNeg) ↔ txok s a (S1.1 46 s.toNatClampNeg) (vf176 s) := by
    constructor
    · intro z
      have l := (s4_of ⟨z.1, z.2.1⟩).1
      rw [c0 _ l, ← most_eq z.1 z.2.1]; exact z
    · intro z
      have l := (s4_of ⟨z.1, z.2.1⟩).1
      rw [← c0 _ l, most_eq z.1 z.2.1]; exact z
  by_cases y : txok s a (S.1 23 s.toNatClampNeg) (ex_st 1 s.toNatClampNeg)
  · have l := (s4_of ⟨y.1, y.2.1⟩).1
    obtain ⟨f1, p1, n1, y1⟩ := g1.2 y
    obtain ⟨f2, p2, n2, y2⟩ := g2.2 (ok.mp y)
    by_cases pz : pf A = 0
    · obtain ⟨v1, c1⟩ := y1 pz
      obtain ⟨w1, c2⟩ := y2 pz
      refine ⟨v1.trans (Eq.trans ?_ w1.symm), fin (f1.trans f2.symm) (p1.trans p2.symm) (fun k hk => (c1 k hk).trans (Eq.trans ?_ (c2 k hk).symm))⟩
      · show (if a = -1 then S.1 23 s.toNatClampNeg else a) = if a = -1 then S1.1 46 s.toNatClampNeg else a
        rw [c0 _ l]
      · show (if a = -1 ∧ k = s.toNatClampNeg then S.1 23 s.toNatClampNeg + 1 else S.1 23 k) = if a = -1 ∧ k = s.toNatClampNeg then S1.1 46 s.toNatClampNeg + 1 else S1.1 46 k
        rw [c0 _ l, c0 k hk]
    · obtain ⟨v1, c1⟩ := n1 pz
      obtain ⟨w1, c2⟩ := n2 pz
      exact ⟨v1.trans w1.symm, fin (f1.trans f2.symm) (p1.trans p2.symm) (fun k hk => (c1 k hk).trans ((c0 k hk).symm.trans (c2 k hk).symm))⟩
  · obtain ⟨v1, f1, p1, c1⟩ := g1.1 y
    obtain ⟨w1, f2, p2, c2⟩ := g2.1 (fun z => y (ok.mpr z))
    exact ⟨v1.trans w1.symm, fin (f1.trans f2.symm) (p1.trans p2.symm) (fun k hk => (c1 k hk).trans ((c0 k hk).symm.trans (c2 k hk).symm))⟩
/-! IMAGE and AGAIN keep it -/
/-- the fixed object and the images: each with its arrays behind it, apart -/
def tW (S : ex_S) : Prop := tO S 17 ∧ 72 ≤ S.2.2.2.2 ∧ (∀ i b, i < 3 → S.2.2.1 24 i = some b → 72 ≤ b ∧ b + 7 ≤ S.2.2.2.2 ∧ tO S b) ∧ ∀ i k b c, i < 3 → k < 3 → i ≠ k → S.2.2.1 24 i = some b → S.2.2.1 24 k = some c → tD b c
/-- texts that a names, t names too -/
def refEq (S S_q : ex_S) (a t : Nat) : Prop := ∀ m, m < 4 → ∀ c, c < tlen m → S_q.2.2.1 (t + 2 + m) c = S.2.2.1 (a + 2 + m) c
theorem tzz_in {S : ex_S} {t a m c : Nat} (ot : tO S t) (hm : m < 4) (hc : c < tlen m) : tzz S t a 4 0 (t + 2 + m) c = S.2.2.1 (a + 2 + m) c := by
  unfold tzz
  rw [if_pos (Or.inl ⟨by omega, by omega, by rw [(ot.2.2 m hm).2]; exact hc⟩), show a + (t + 2 + m - t) = a + 2 + m by omega]
theorem tC_at {t a : Nat} {S S_q : ex_S} (h : tC t a S S_q) (ot : tO S t) (oa : tO S a) (d : tD t a) : blkEq S S_q a t ∧ (∀ c j, c ≠ t → c ≠ t + 1 → c ≠ t + 6 → S_q.1 c j = S.1 c j) ∧ ∀ c j, S_q.2.2.1 c j = tzz S t a 4 0 c j := by
  obtain ⟨h1, h2, h3, h4⟩ := h ot oa d
  refine ⟨⟨fun j hj => ?_, fun j j1 j3 => ?_, fun s hs => ?_⟩, fun c j c1 c2 c3 => ?_, h4⟩
  · rw [h1, if_pos ⟨rfl, hj⟩]
  · rw [h1, if_neg (fun z => by omega), if_pos ⟨rfl, j1, j3⟩]
  · rw [h1, if_neg (fun z => by omega), if_neg (fun z => by omega), if_pos ⟨rfl, hs⟩]
  · rw [h1, if_neg (fun z => c2 z.1), if_neg (fun z => c1 z.1), if_neg (fun z => c3 z.1)]
/-- the class's image, where one is made -/
theorem ciC_img {a v : Int32} {S S1 : ex_S} (W : tW S) (h : ciC a S v S1) (ha : 0 ≤ a ∧ a ≤ 2) (hk : a.toNatClampNeg < 3) : v = 1 ∧ ∃ t, 72 ≤ t ∧ blkEq S S1 17 t ∧ (∀ c j, c < 72 → S1.1 c j = S.1 c j) ∧ (∀ i b, i < 3 → i ≠ a.toNatClampNeg → S.2.2.1 24 i = some b → ∀ c j, b ≤ c → c < b + 7 → S1.1 c j = S.1 c j) ∧ (∀ j, S1.2.2.1 24 j = if j = a.toNatClampNeg then some t else S.2.2.1 24 j) ∧ refEq S S1 17 t ∧ (∀ c j, c < 72 → c ≠ 24 → S1.2.2.1 c j = S.2.2.1 c j) ∧ ∀ i b, i < 3 → i ≠ a.toNatClampNeg → S.2.2.1 24 i = some b → ∀ c j, b ≤ c → c < b + 7 → S1.2.2.1 c j = S.2.2.1 c j := by
  obtain ⟨o17, top, im, ap⟩ := W
  obtain ⟨v1, h⟩ := h.2 ha
  refine ⟨v1, ?_⟩
  generalize a.toNatClampNeg = k at h hk
  rcases h with ⟨b, eb, h⟩ | ⟨eb, Sx, hN, h⟩
  · obtain ⟨b72, b7, ob⟩ := im k b hk eb
    obtain ⟨x1, x2, x3⟩ := tC_at h ob o17 (by unfold tD; omega)
    refine ⟨b, b72, x1, fun c j hc => x2 c j (by omega) (by omega) (by omega), fun i b_q hi hne eb' c j c1 c2 => ?_, fun j => ?_, fun m hm c hc => ?_, fun c j hc h24 => ?_, fun i b_q hi hne eb' c j c1 c2 => ?_⟩
    · have d := ap i k b_q b hi hk hne eb' eb
      unfold tD at d
      exact x2 c j (by omega) (by omega) (by omega)
    · rw [x3, tzz_out (by omega) (by omega) (Or.inr rfl)]
      by_cases q : j = k
      · rw [if_pos q, q, eb]
      · rw [if_neg q]
    · rw [x3, tzz_in ob hm hc]
    · rw [x3, tzz_out (by omega) (by omega) (Or.inr rfl)]
    · have d := ap i k b_q b hi hk hne eb' eb
      unfold tD at d
      rw [x3, tzz_out (by omega) (by omega) (Or.inr rfl)]
  · obtain ⟨oN, tN', kN⟩ := hN (show S.2.2.2.2 + 1 = (ex_new S 0).2.2.2.2 from rfl)
    generalize et : S.2.2.2.2 = t at h oN tN' kN top im
    have low : ∀ c j, c < t → Sx.1 c j = S.1 c j := fun c j hc => by
      refine (kN c j hc).1.trans ?_
      show (if c = S.2.2.2.2 then 0 else S.1 c j) = S.1 c j
      rw [if_neg (by omega)]
    have lowz : ∀ c j, c < t → Sx.2.2.1 c j = S.2.2.1 c j := fun c j hc => by
      refine (kN c j hc).2.2.1.trans ?_
      show (if c = S.2.2.2.2 then none else S.2.2.1 c j) = S.2.2.1 c j
      rw [if_neg (by omega)]
    have lowl : ∀ c, c < t → Sx.2.2.2.1 c = S.2.2.2.1 c := fun c hc => by
      refine (kN c 0 hc).2.2.2.trans ?_
      show (if c = S.2.2.2.2 then 0 else S.2.2.2.1 c) = S.2.2.2.1 c
      rw [if_neg (by omega)]
    have uz : ∀ c j, ¬ c = 24 → (ex_sz Sx 24 k (some t)).2.2.1 c j = Sx.2.2.1 c j := fun c j hc => by
      rw [ex_sz_at, if_neg (fun z => hc z.1)]
    have ot : tO (ex_sz Sx 24 k (some t)) t := ⟨(uz t 0 (by omega)).trans oN.1, (uz t 8 (by omega)).trans oN.2.1, fun m hm => ⟨(uz t _ (by omega)).trans (oN.2.2 m hm).1, (oN.2.2 m hm).2⟩⟩
    have o17' : tO (ex_sz Sx 24 k (some t)) 17 := ⟨((uz 17 0 (by omega)).trans (lowz 17 0 (by omega))).trans o17.1, ((uz 17 8 (by omega)).trans (lowz 17 8 (by omega))).trans o17.2.1, fun m hm => ⟨((uz 17 _ (by omega)).trans (lowz 17 _ (by omega))).trans (o17.2.2 m hm).1, (lowl (17 + 2 + m) (by omega)).trans (o17.2.2 m hm).2⟩⟩
    obtain ⟨x1, x2, x3⟩ := tC_at h ot o17' (by unfold tD; omega)
    refine ⟨t, top, ⟨fun j hj => (x1.1 j hj).trans (low _ _ (by omega)), fun j j1 j3 => (x1.2.1 j j1 j3).trans (low _ _ (by omega)), fun s hs => (x1.2.2 s hs).trans (low _ _ (by omega))⟩, fun c j hc => (x2 c j (by omega) (by omega) (by omega)).trans (low c j (by omega)), fun i b_q hi hne eb' c j c1 c2 => ?_, fun j => ?_, fun m hm c hc => ?_, fun c j hc h24 => ?_, fun i b_q hi hne eb' c j c1 c2 => ?_⟩
    · have := (im i b_q hi eb').2.1
      exact (x2 c j (by omega) (by omega) (by omega)).trans (low c j (by omega))
    · rw [x3, tzz_out (by omega) (by omega) (Or.inr rfl), ex_sz_at, lowz 24 j (by omega)]
      by_cases q : j = k
      · rw [if_pos ⟨rfl, q⟩, if_pos q]
      · rw [if_neg (fun z => q z.2), if_neg q]
    · rw [x3, tzz_in ot hm hc, uz _ _ (by omega), lowz _ _ (by omega)]
    · rw [x3, tzz_out (by omega) (by omega) (Or.inr rfl), uz c j h24, lowz c j (by omega)]
    · have := (im i b_q hi eb').2.1
      have b72' := (im i b_q hi eb').1
      rw [x3, tzz_out (by omega) (by omega) (Or.inr rfl), uz c j (by omega), lowz c j (by omega)]
theorem roi_at {T : Nat → Int32} {w f t i : Nat} (hi : i < w) : roi T w f t w (w * t + i) = T (w * f + i) := by
  unfold roi
  rw [if_pos ⟨by omega, by omega⟩, show w * t + i - w * t = i by omega]
theorem roi_ne {T : Nat → Int32} {w f t r i : Nat} (hi : i < w) (hne : r ≠ t) : roi T w f t w (w * r + i) = T (w * r + i) := by
  unfold roi
  rcases ro_dis hi hne with z | z
  · rw [if_neg (fun y => by omega)]
  · rw [if_neg (fun y => by omega)]
theorem roi_B {T : Nat → Int32} {w f t j : Nat} (h : ∀ j, sf_B (-128) 127 (T j)) : sf_B (-128) 127 (roi T w f t w j) := by
  unfold roi
  split
  · exact h _
  · exact h _
/-- the reference's copy of a row -/
theorem raC_at {a0 a1 : Int32} {S S_q : ex_S} {f t : Nat} (h : raC a0 a1 S S_q) (e0 : a0 = Int32.ofNat f) (e1 : a1 = Int32.ofNat t) (hf : f ≤ 3) (ht : t ≤ 3) (hne : f ≠ t) (hB : ∀ i, sf_B (-128) 127 (S.1 42 i)) : rowEq S S_q f t ∧ (∀ r, r ≠ t → rowEq S S_q r r) ∧ (∀ i, sf_B (-128) 127 (S_q.1 42 i)) ∧ (∀ c j, c < 42 ∨ 50 < c → S_q.1 c j = S.1 c j) ∧ S_q.2 = S.2 := by
  obtain ⟨F, g⟩ := h
  obtain ⟨g2, g3, g4, g5, g6, _⟩ := g f t e0 e1 hf ht hne hB
  refine ⟨⟨fun j hj => ?_, fun j j1 j3 => ?_, fun s hs => ?_⟩, fun r hr => ⟨fun j hj => ?_, fun j j1 j3 => ?_, fun s hs => ?_⟩, fun i => ?_, fun c j hc => F.1 c j (by unfold raP; omega), F.2⟩
  · rw [g2, roi_at hj]
  · rcases (show j = 1 ∨ j = 2 ∨ j = 3 by omega) with rfl | rfl | rfl
    · have z := roi_at (T := S.1 43) (w := 1) (f := f) (t := t) (i := 0) (by omega)
      rw [show 1 * t + 0 = t by omega, show 1 * f + 0 = f by omega] at z
      exact (g3 t).trans z
    · have z := roi_at (T := S.1 44) (w := 1) (f := f) (t := t) (i := 0) (by omega)
      rw [show 1 * t + 0 = t by omega, show 1 * f + 0 = f by omega] at z
      exact (g4 t).trans z
    · have z := roi_at (T := S.1 45) (w := 1) (f := f) (t := t) (i := 0) (by omega)
      rw [show 1 * t + 0 = t by omega, show 1 * f + 0 = f by omega] at z
      exact (g5 t).trans z
  · rw [g6, roi_at hs]
  · rw [g2, roi_ne hj hr]
  · rcases (show j = 1 ∨ j = 2 ∨ j = 3 by omega) with rfl | rfl | rfl
    · have z := roi_ne (T := S.1 43) (w := 1) (f := f) (t := t) (r := r) (i := 0) (by omega) hr
      rw [show 1 * r + 0 = r by omega] at z
      exact (g3 r).trans z
    · have z := roi_ne (T := S.1 44) (w := 1) (f := f) (t := t) (r := r) (i := 0) (by omega) hr
      rw [show 1 * r + 0 = r by omega] at z
      exact (g4 r).trans z
    · have z := roi_ne (T := S.1 45) (w := 1) (f := f) (t := t) (r := r) (i := 0) (by omega) hr
      rw [show 1 * r + 0 = r by omega] at z
      exact (g5 r).trans z
  · rw [g6, roi_ne hs hr]
  · rw [g2]; exact roi_B hB
theorem R1_41 {S : ex_S} {v : Int32} (R : R1 S) : R1 (ex_sx S 41 0 v) := R.keep (fun c j hc => ex_sx_ne (by omega)) (fun _ => rfl) (fun i b hi eb c j c1 c2 => ex_sx_ne (by have := (R.2.1 i b hi eb).1; omega))
theorem k3_of {a : Int32} (ha : 0 ≤ a ∧ a ≤ 2) : a.toNatClampNeg < 3 ∧ a = Int32.ofNat a.toNatClampNeg := by
  have h1 := Int32.le_iff_toInt_le.mp ha.1
  have h2 := Int32.le_iff_toInt_le.mp ha.2
  have e0 : (0 : Int32).toInt = 0 := rfl
  have e2 : (2 : Int32).toInt = 2 := rfl
  rw [e0] at h1; rw [e2] at h2
  have e : a.toNatClampNeg = a.toInt.toNat := rfl
  have l : a.toNatClampNeg < 3 := by omega
  refine ⟨l, ?_⟩
  apply Int32.toInt_inj.mp
  rw [n32_i (by omega)]
  omega
theorem R_image {a v w : Int32} {S S1 S2 : ex_S} (R : R1 S) (W : tW S) (h1 : ciC a S v S1) (h2 : riC a S1 w S2) : v = w ∧ R1 S2 := by
  by_cases ha : 0 ≤ a ∧ a ≤ 2
  · obtain ⟨hk, ea⟩ := k3_of ha
    obtain ⟨v1, t, t72, b1, l1, m1, z1, _⟩ := ciC_img W h1 ha hk
    obtain ⟨w1, Sy, hy, e2⟩ := h2.2 ha
    have ea1 : a + 1 = Int32.ofNat (a.toNatClampNeg + 1) := by
      rw [← n32_s, ← ea]
    have B1 : ∀ i, sf_B (-128) 127 ((ex_sx S1 41 0 0).1 42 i) := fun i => by
      rw [ex_sx_ne (by omega), l1 42 i (by omega)]; exact R.2.2.2 i
    obtain ⟨y1, y2, y3, y4, y5⟩ := raC_at hy (show (0 : Int32) = Int32.ofNat 0 from rfl) ea1 (by omega) (by omega) (by omega) B1
    generalize a.toNatClampNeg = k at hk z1 m1 y1 y2 e2
    have c2 : ∀ c j, c < 41 ∨ 71 < c → S2.1 c j = S1.1 c j := fun c j hc => by
      rw [e2, ex_sx_ne (by omega), y4 c j (by omega), ex_sx_ne (by omega)]
    have r2 : ∀ c j, 42 ≤ c → c ≤ 46 → S2.1 c j = Sy.1 c j := fun c j h1 h3 => by
      rw [e2, ex_sx_ne (by omega)]
    have r1 : ∀ c j, 42 ≤ c → c ≤ 46 → (ex_sx S1 41 0 0).1 c j = S.1 c j := fun c j h1 h3 => by
      rw [ex_sx_ne (by omega), l1 c j (by omega)]
    have p1 : ∀ {f r}, rowEq (ex_sx S1 41 0 0) Sy f r → rowEq S S2 f r := fun {f r} y => (((rowEq.of r1).trans y).trans (rowEq.of r2))
    have z2 : ∀ j, S2.2.2.1 24 j = S1.2.2.1 24 j := fun j => by
      rw [e2]
      show Sy.2.2.1 24 j = _
      rw [y5]; rfl
    have q71 : ∀ j, S2.1 71 j = if j = k then 1 else S.1 71 j := fun j => by
      rw [e2, ex_sx_at]
      by_cases q : j = k
      · rw [if_pos ⟨rfl, q⟩, if_pos q]
      · rw [if_neg (fun z => q z.2), if_neg q, y4 71 j (by omega), ex_sx_ne (by omega), l1 71 j (by omega)]
    refine ⟨v1.trans w1.symm, R.1.mk' (blkEq.of (fun c j c1 c3 => (c2 c j (by omega)).trans (l1 c j (by omega)))) (p1 (y2 0 (by omega))), fun i b hi eb => ?_, fun i hi => ?_, fun i => ?_⟩
    · rw [z2, z1] at eb
      by_cases q : i = k
      · rw [if_pos q] at eb
        cases eb
        subst q
        exact ⟨t72, R.1.mk' (b1.trans (blkEq.of (fun c j c1 _ => c2 c j (by omega)))) (p1 y1)⟩
      · rw [if_neg q] at eb
        obtain ⟨b72, te⟩ := R.2.1 i b hi eb
        exact ⟨b72, te.mk' (blkEq.of (fun c j c1 c3 => (c2 c j (by omega)).trans (m1 i b hi q eb c j c1 c3))) (p1 (y2 (i + 1) (by omega)))⟩
    · rw [z2, z1, q71]
      by_cases q : i = k
      · rw [if_pos q, if_pos q]
        exact Iff.intro (fun z => absurd z (Option.some_ne_none t)) (fun z => absurd z (show ¬ ((1 : Int32) = 0) by decide))
      · rw [if_neg q, if_neg q]; exact R.2.2.1 i hi
    · rw [r2 42 i (by omega) (by omega)]; exact y3 i
  · obtain ⟨v0, e1⟩ := h1.1 ha
    obtain ⟨w0, e2⟩ := h2.1 ha
    refine ⟨v0.trans w0.symm, ?_⟩
    rw [e2, e1]
    exact R1_41 R
theorem R_again {a v w : Int32} {S S1 S2 : ex_S} (R : R1 S) (W : tW S) (h1 : cgC a S v S1) (h2 : rgC a S1 w S2) : v = w ∧ R1 S2 := by
  obtain ⟨o17, top, im, ap⟩ := W
  by_cases ha : (0 ≤ a ∧ a ≤ 2) ∧ ¬ S.2.2.1 24 a.toNatClampNeg = none
  · obtain ⟨hk, ea⟩ := k3_of ha.1
    obtain ⟨v1, b, eb, h⟩ := h1.2 ha
    obtain ⟨b72, b7, ob⟩ := im _ b hk eb
    obtain ⟨x1, x2, x3⟩ := tC_at h o17 ob (by unfold tD; omega)
    have k71 : ¬ S1.1 71 a.toNatClampNeg = 0 := by
      rw [x2 71 _ (by omega) (by omega) (by omega)]
      exact fun z => ha.2 ((R.2.2.1 _ hk).mpr z)
    obtain ⟨w1, hy⟩ := h2.2 ⟨ha.1, k71⟩
    have ea1 : a + 1 = Int32.ofNat (a.toNatClampNeg + 1) := by
      rw [← n32_s, ← ea]
    have B1 : ∀ i, sf_B (-128) 127 ((ex_sx S1 41 0 0).1 42 i) := fun i => by
      rw [ex_sx_ne (by omega), x2 42 i (by omega) (by omega) (by omega)]; exact R.2.2.2 i
    obtain ⟨y1, y2, y3, y4, y5⟩ := raC_at hy ea1 (show (0 : Int32) = Int32.ofNat 0 from rfl) (by omega) (by omega) (by omega) B1
    have te := (R.2.1 _ b hk eb).2
    generalize a.toNatClampNeg = k at hk y1 y2 te
    have c2 : ∀ c j, c < 41 ∨ 50 < c → S2.1 c j = S1.1 c j := fun c j hc => by
      rw [y4 c j (by omega), ex_sx_ne (by omega)]
    have r1 : ∀ c j, 42 ≤ c → c ≤ 46 → (ex_sx S1 41 0 0).1 c j = S.1 c j := fun c j h1 h3 => by
      rw [ex_sx_ne (by omega), x2 c j (by omega) (by omega) (by omega)]
    have p1 : ∀ {f r}, rowEq (ex_sx S1 41 0 0) S2 f r → rowEq S S2 f r := fun {f r} y => (rowEq.of r1).trans y
    have z2 : ∀ j, S2.2.2.1 24 j = S.2.2.1 24 j := fun j => by
      rw [y5]
      show S1.2.2.1 24 j = _
      rw [x3, tzz_out (by omega) (by omega) (Or.inr rfl)]
    refine ⟨v1.trans w1.symm, te.mk' (x1.trans (blkEq.of (fun c j c1 c3 => c2 c j (by omega)))) (p1 y1), fun i b_q hi eb' => ?_, fun i hi => ?_, y3⟩
    · rw [z2] at eb'
      obtain ⟨b72', te'⟩ := R.2.1 i b_q hi eb'
      exact ⟨b72', te'.mk' (blkEq.of (fun c j c1 c3 => (c2 c j (by omega)).trans (x2 c j (by omega) (by omega) (by omega)))) (p1 (y2 (i + 1) (by omega)))⟩
    · rw [z2, c2 71 i (by omega), x2 71 i (by omega) (by omega) (by omega)]; exact R.2.2.1 i hi
  · obtain ⟨v0, e1⟩ := h1.1 ha
    have ha' : ¬ ((0 ≤ a ∧ a ≤ 2) ∧ ¬ S1.1 71 a.toNatClampNeg = 0) := by
      rw [e1]
      intro z
      exact ha ⟨z.1, fun y => z.2 ((R.2.2.1 _ (k3_of z.1).1).mp y)⟩
    obtain ⟨w0, e2⟩ := h2.1 ha'
    refine ⟨v0.trans w0.symm, ?_⟩
    rw [e2, e1]
    exact R1_41 R
/-! FAULT and COUNT answer alike -/
theorem R_fault {a v w : Int32} {S S1 S2 : ex_S} (R : R1 S) (h1 : qF (fun S => S.1 17 2) (fun S => S.1 17 3) a S v S1) (h2 : qF (fun S => S.1 44 0) (fun S => S.1 45 0) a S1 w S2) : v = w := by
  have e2 : S1.1 44 0 = S.1 17 2 := (h1.1.1 44 0 (by omega)).trans (R.1.2.1 2 (by omega) (by omega)).symm
  have e3 : S1.1 45 0 = S.1 17 3 := (h1.1.1 45 0 (by omega)).trans (R.1.2.1 3 (by omega) (by omega)).symm
  refine h1.2.trans (Eq.trans ?_ h2.2.symm)
  show (if a = 0 then S.1 17 2 else if a = 1 then S.1 17 3 else -1) = if a = 0 then S1.1 44 0 else if a = 1 then S1.1 45 0 else -1
  rw [e2, e3]
theorem R_count {a v w : Int32} {S S1 S2 : ex_S} (R : R1 S) (h1 : qC 23 a S v S1) (h2 : qC 46 a S1 w S2) : v = w := by
  refine h1.2.trans (Eq.trans ?_ h2.2.symm)
  by_cases q : 0 ≤ a ∧ a ≤ 3
  · rw [if_pos q, if_pos q, h1.1.1 46 _ (by omega)]
    have z := R.1.2.2 _ (s4_of q).1
    rw [show 4 * 0 + a.toNatClampNeg = a.toNatClampNeg by omega] at z
    exact z
  · rw [if_neg q, if_neg q]
end
section
/-! THE LAW'S LOOP keeps it: from cells to views -/
theorem ex_vi {a b : Int32} (h : some (Value.int a) = some (.int b)) : b = a := by cases h; rfl
theorem ex_vl {a b : Int64} (h : some (Value.long a) = some (.long b)) : b = a := by cases h; rfl
section
variable {ck ck1 : cl_K} {E E1 : Nat → pm_E} {m m1 mr : Nat → Int32} {o o1 : Nat → Option Nat} {wr : Int64} {h h1 h2 : pm_H}
theorem ck_img {b c : Nat} (G : cl_G ck E) (hk : ck b = 15) (c1 : b ≤ c) (c2 : c < b + 7) : 15 ≤ ck c ∧ ck c ≤ 21 ∧ (b < c → ck c ≠ 15) := by
  obtain ⟨g1, g2, g3, g4, g5, g6⟩ := G.2.2.2.2.2.1 b hk
  rcases (show c = b ∨ c = b + 1 ∨ c = b + 2 ∨ c = b + 3 ∨ c = b + 4 ∨ c = b + 5 ∨ c = b + 6 by omega) with w | w | w | w | w | w | w <;> subst w <;> refine ⟨by omega, by omega, fun _ => by omega⟩
theorem img_keep {A : List Nat} {n s : Nat} (G : cl_G ck E) (T : cl_T ck E m o h) (F : cl_F ck A n s h h1) (hA : (A.all fun a => decide (a < 72)) = true) : ∀ i b, i < 3 → (ex_V h).2.2.1 24 i = some b → ∀ c, b ≤ c → c < b + 7 → h1.2.2 c = h.2.2 c := by
  intro i b hi eb c c1 c2
  obtain ⟨f, e, hO⟩ := T.C 24 (by decide) (by decide)
  have eb : ex_eZ (h.2.2 24) i = some b := eb
  rw [e] at eb
  have hk := hO i b eb
  have b72 := G.1 b (by rw [hk]; decide)
  obtain ⟨k1, k2, _⟩ := ck_img G hk c1 c2
  refine F.2.2.2.2 c (T.al rfl (by omega)) (fun z => ?_) (by omega)
  have := List.all_eq_true.mp hA c z
  simp only [decide_eq_true_eq] at this
  omega
theorem R1_cl {A : List Nat} {n s : Nat} (G : cl_G ck E) (T : cl_T ck E m o h) (F : cl_F ck A n s h h1) (hA : (A.all fun a => decide (a < 72) && decide (a < 17 ∨ 24 < a) && decide (a < 41)) = true) (R : R1 (ex_V h)) : R1 (ex_V h1) := by
  have nA : ∀ a ∈ A, (a < 17 ∨ 24 < a) ∧ a < 41 := fun a ha => by
    have := List.all_eq_true.mp hA a ha
    simp only [Bool.and_eq_true, decide_eq_true_eq] at this
    exact ⟨this.1.2, this.2⟩
  have low : ∀ a, (17 ≤ a ∧ a ≤ 24) ∨ (41 ≤ a ∧ a < 72) → h1.2.2 a = h.2.2 a := fun a ha => F.cell G (fun z => by have := nA a z; omega) (by omega) rfl
  refine R.keep (fun c j hc => congrArg (fun e => ex_eX e j) (low c (by omega))) (fun i => congrArg (fun e => ex_eZ e i) (low 24 (by omega))) (fun i b hi eb c j c1 c2 => congrArg (fun e => ex_eX e j) (img_keep G T F ?_ i b hi eb c c1 c2))
  refine List.all_eq_true.mpr (fun a ha => decide_eq_true ?_)
  have := nA a ha
  omega
theorem R1_rf {A : List Nat} (F : rf_G A h h2) (hA : (A.all fun a => decide (41 ≤ a) && decide (a < 71) && decide (a < 42 ∨ 46 < a)) = true) (R : R1 (ex_V h)) : R1 (ex_V h2) := by
  have no : ∀ a, a < 41 ∨ (42 ≤ a ∧ a ≤ 46) ∨ 70 < a → h2.2.2 a = h.2.2 a := fun a ha => F.2.2 a (fun z => by
    have := List.all_eq_true.mp hA a z
    simp only [Bool.and_eq_true, decide_eq_true_eq] at this
    omega)
  exact R.keep (fun c j hc => congrArg (fun e => ex_eX e j) (no c (by omega))) (fun i => congrArg (fun e => ex_eZ e i) (no 24 (by omega))) (fun i b hi eb c j c1 c2 => congrArg (fun e => ex_eX e j) (no c (by have := (R.2.1 i b hi eb).1; omega)))
theorem tW_of (G : cl_G ck E) (T : cl_T ck E m o h) (S : p2_S m h) : tW (ex_V h) := by
  obtain ⟨g, q, f, e1, e2, e3, e4, e5, e6, e7⟩ := S
  obtain ⟨f0, ef0, hO⟩ := T.C 24 (by decide) (by decide)
  rw [e3] at ef0; cases ef0
  have z24 : ∀ i, (ex_V h).2.2.1 24 i = f i := fun i => by
    show ex_eZ (h.2.2 24) i = f i
    rw [e3]; rfl
  refine ⟨⟨?_, ?_, fun x hx => ?_⟩, T.1, fun i b hi eb => ?_, fun i k b c hi hk hne eb ec => ?_⟩
  · show ex_eZ (h.2.2 17) 0 = some 18
    rw [T.e17]; rfl
  · show ex_eZ (h.2.2 17) 8 = some 23
    rw [T.e17]; rfl
  · match x, hx with
    | 0, _ =>
      obtain ⟨f', e, _⟩ := T.C 19 (by decide) (by decide)
      refine ⟨?_, ?_⟩
      · show ex_eZ (h.2.2 17) 4 = some 19
        rw [T.e17]; rfl
      · show ex_eL (h.2.2 19) = 2
        rw [e]; rfl
    | 1, _ =>
      obtain ⟨f', e, _⟩ := T.C 20 (by decide) (by decide)
      refine ⟨?_, ?_⟩
      · show ex_eZ (h.2.2 17) 5 = some 20
        rw [T.e17]; rfl
      · show ex_eL (h.2.2 20) = 3
        rw [e]; rfl
    | 2, _ =>
      obtain ⟨f', e, _⟩ := T.C 21 (by decide) (by decide)
      refine ⟨?_, ?_⟩
      · show ex_eZ (h.2.2 17) 6 = some 21
        rw [T.e17]; rfl
      · show ex_eL (h.2.2 21) = 2
        rw [e]; rfl
    | 3, _ =>
      obtain ⟨f', e, _⟩ := T.C 22 (by decide) (by decide)
      refine ⟨?_, ?_⟩
      · show ex_eZ (h.2.2 17) 7 = some 22
        rw [T.e17]; rfl
      · show ex_eL (h.2.2 22) = 2
        rw [e]; rfl
    | x + 4, hx => exact absurd hx (by omega)
  · rw [z24] at eb
    have hk := hO i b eb
    obtain ⟨g1, g2, g3, g4, g5, g6⟩ := G.2.2.2.2.2.1 b hk
    have b6 := T.al g6 (by decide)
    obtain ⟨s, t, u, _, _, _, d1, d2, d3, d4, d5, d6, d7, _⟩ := T.D.1 b hk
    refine ⟨G.1 b (by rw [hk]; decide), ?_, ?_, ?_, fun x hx => ?_⟩
    · show b + 7 ≤ h.1
      omega
    · show ex_eZ (h.2.2 b) 0 = some (b + 1)
      rw [d1]; rfl
    · show ex_eZ (h.2.2 b) 8 = some (b + 6)
      rw [d1]; rfl
    · match x, hx with
      | 0, _ =>
        obtain ⟨f', e, _⟩ := d3
        refine ⟨?_, ?_⟩
        · show ex_eZ (h.2.2 b) 4 = some (b + 2)
          rw [d1]; rfl
        · show ex_eL (h.2.2 (b + 2)) = 2
          rw [e]; rfl
      | 1, _ =>
        obtain ⟨f', e, _⟩ := d4
        refine ⟨?_, ?_⟩
        · show ex_eZ (h.2.2 b) 5 = some (b + 3)
          rw [d1]; rfl
        · show ex_eL (h.2.2 (b + 3)) = 3
          rw [e]; rfl
      | 2, _ =>
        obtain ⟨f', e, _⟩ := d5
        refine ⟨?_, ?_⟩
        · show ex_eZ (h.2.2 b) 6 = some (b + 4)
          rw [d1]; rfl
        · show ex_eL (h.2.2 (b + 4)) = 2
          rw [e]; rfl
      | 3, _ =>
        obtain ⟨f', e, _⟩ := d6
        refine ⟨?_, ?_⟩
        · show ex_eZ (h.2.2 b) 7 = some (b + 5)
          rw [d1]; rfl
        · show ex_eL (h.2.2 (b + 5)) = 2
          rw [e]; rfl
      | x + 4, hx => exact absurd hx (by omega)
  · rw [z24] at eb ec
    have hb := hO i b eb
    have hc := hO k c ec
    have n1 : ¬ (b < c ∧ c < b + 7) := fun z => (ck_img G hb (by omega) z.2).2.2 z.1 hc
    have n2 : ¬ (c < b ∧ b < c + 7) := fun z => (ck_img G hc (by omega) z.2).2.2 z.1 hb
    have n3 : b ≠ c := fun z => hne (e7 i k b hi hk eb (by rw [z]; exact ec))
    unfold tD
    omega
theorem sz_of (T : cl_T ck E m o h) : ∃ n, (ex_V h).1 17 1 = Int32.ofNat n ∧ n ≤ 600 := by
  have b0 : 0 ≤ (m 0).toInt := (T.B 0).1
  have b1 : (m 0).toInt ≤ 600 := (T.B 0).2
  refine ⟨(m 0).toInt.toNat, ?_, by omega⟩
  show ex_eX (h.2.2 17) 1 = _
  rw [T.e17]
  show m 0 = _
  apply Int32.toInt_inj.mp
  rw [n32_i (by omega)]
  omega
theorem KV_of (K : ex_K h) : ex_KV (ex_V h) := fun a a1 a2 => ⟨fun j => by
  show ex_eX (h.2.2 a) j = _
  rw [K.1 a a1 a2]; rfl, by
  show ex_eL (h.2.2 a) = _
  rw [K.1 a a1 a2]⟩
theorem cq11_of {n : Nat} (T : cl_T ck E m o h) (K : ex_K h) (hn : n ≤ 600) : cq11 (ex_V h) n := by
  obtain ⟨f18, e18⟩ := T.C 18 (by decide) (by decide)
  obtain ⟨f28, e28⟩ := T.C 28 (by decide) (by decide)
  obtain ⟨f29, e29⟩ := T.C 29 (by decide) (by decide)
  refine ⟨hn, ?_, ?_, ?_, KV_of K⟩
  · show ex_eL (h.2.2 18) = 600
    rw [e18]; rfl
  · show ex_eL (h.2.2 28) = 10
    rw [e28]; rfl
  · show ex_eL (h.2.2 29) = 4
    rw [e29]; rfl
theorem rxq_of {n : Nat} (Tr : rf_T mr wr h) (e43 : (ex_V h).1 43 0 = Int32.ofNat n) (hn : n ≤ 600) (hB : ∀ i, sf_B (-128) 127 ((ex_V h).1 42 i)) : rxq (ex_V h) n := by
  obtain ⟨f, e, b⟩ := Tr.2.2.2.1 46 (by decide) (by decide)
  refine ⟨e43, hn, hB, fun k hk => ?_⟩
  have ef : (ex_V h).1 46 k = f k := by
    show ex_eX (h.2.2 46) k = f k
    rw [e]; rfl
  rw [ef]
  have bk := b k
  match k, hk, bk with
  | 0, _, bk => exact ⟨⟨bk.1, Int.le_trans bk.2 (by decide)⟩, Int32.le_iff_toInt_le.mpr bk.2⟩
  | 1, _, bk => exact ⟨⟨bk.1, bk.2⟩, Int32.le_iff_toInt_le.mpr bk.2⟩
  | 2, _, bk => exact ⟨⟨bk.1, Int.le_trans bk.2 (by decide)⟩, Int32.le_iff_toInt_le.mpr bk.2⟩
  | 3, _, bk => exact ⟨⟨bk.1, Int.le_trans bk.2 (by decide)⟩, Int32.le_iff_toInt_le.mpr bk.2⟩
  | k + 4, hk, _ => exact absurd hk (by omega)
theorem R_text_h {A : List Nat} {n s nn : Nat} {x1 x2 r1 r2 : Int32} (G : cl_G ck E) (T : cl_T ck E m o h) (F : cl_F ck A n s h h1) (hA : (A.all fun a => decide (a < 72)) = true) (en : (ex_V h).1 17 1 = Int32.ofNat nn) (hnn : nn ≤ 600) (K : ex_K h) (R : R1 (ex_V h)) (P1 : cxC x1 x2 (ex_V h) r1 (ex_V h1)) (ot : ∀ a, 41 ≤ a → a < 72 → h1.2.2 a = h.2.2 a) (g24 : h1.2.2 24 = h.2.2 24) (Tr1 : rf_T mr wr h1) (P2 : rxC x1 x2 (ex_V h1) r2 (ex_V h2)) (hi2 : ∀ a, (a < 41 ∨ 71 < a) → h2.2.2 a = h1.2.2 a) : r1 = r2 ∧ R1 (ex_V h2) := by
  have v1 : ∀ c j, 41 ≤ c → c < 72 → (ex_V h1).1 c j = (ex_V h).1 c j := fun c j c1 c2 => congrArg (fun e => ex_eX e j) (ot c c1 c2)
  have e43 : (ex_V h1).1 43 0 = Int32.ofNat nn := (v1 43 0 (by decide) (by decide)).trans ((R.1.2.1 1 (by decide) (by decide)).symm.trans en)
  have hB : ∀ i, sf_B (-128) 127 ((ex_V h1).1 42 i) := fun i => by rw [v1 42 i (by decide) (by decide)]; exact R.2.2.2 i
  exact R_text en (cq11_of T K hnn) R P1 v1 (fun i => congrArg (fun e => ex_eZ e i) g24) (fun i b hi eb c j c1 c2 => congrArg (fun e => ex_eX e j) (img_keep G T F hA i b hi eb c c1 c2)) (rxq_of Tr1 e43 hnn hB) P2 (fun c j hc => congrArg (fun e => ex_eX e j) (hi2 c hc)) (fun i => congrArg (fun e => ex_eZ e i) (hi2 24 (by omega)))
end
def p4_I (L : Nat) (xs : Nat → Int32) (j : Nat) (h : pm_H) : Prop := p2_I L xs j h ∧ ex_W h ∧ ex_K h ∧ R1 (ex_V h)
/-- how it begins -/
def iwv (k : Nat) (v : Value) : Bool := match k with | 0 => (match v with | .int _ => true | _ => false) | 1 => (match v with | .long _ => true | _ => false) | 2 => (match v with | .null => true | .ref _ => true | _ => false) | _ => true
theorem iwv_ok {k : Nat} {v : Value} (h : iwv k v = true) : ex_kv k v := by
  match k, v, h with
  | 0, .int x, _ => exact ⟨x, rfl⟩
  | 1, .long x, _ => exact ⟨x, rfl⟩
  | 2, .null, _ => exact ⟨none, rfl⟩
  | 2, .ref a, _ => exact ⟨some a, rfl⟩
  | k + 3, _, _ => trivial
def iwb (e : pm_E) : Bool := match e with | .inr (ci, fs) => (List.range fs.length).all (fun k => match fs[k]? with | some v => iwv (ex_ft ci k) v | none => true) | .inl _ => true
set_option maxRecDepth 100000 in
theorem iwb_all (fm : Bool) (L : Nat) (xs : Nat → Int32) : ∀ a, 16 ≤ a → a < 72 → iwb (pm_fF fm L xs a) = true := fun a h1 h2 => by
  match a, h1, h2 with
  | 16, _, _ => rfl
  | 17, _, _ => rfl
  | 18, _, _ => rfl
  | 19, _, _ => rfl
  | 20, _, _ => rfl
  | 21, _, _ => rfl
  | 22, _, _ => rfl
  | 23, _, _ => rfl
  | 24, _, _ => rfl
  | 25, _, _ => rfl
  | 26, _, _ => rfl
  | 27, _, _ => rfl
  | 28, _, _ => rfl
  | 29, _, _ => rfl
  | 30, _, _ => rfl
  | 31, _, _ => rfl
  | 32, _, _ => rfl
  | 33, _, _ => rfl
  | 34, _, _ => rfl
  | 35, _, _ => rfl
  | 36, _, _ => rfl
  | 37, _, _ => rfl
  | 38, _, _ => rfl
  | 39, _, _ => rfl
  | 40, _, _ => rfl
  | 41, _, _ => rfl
  | 42, _, _ => rfl
  | 43, _, _ => rfl
  | 44, _, _ => rfl
  | 45, _, _ => rfl
  | 46, _, _ => rfl
  | 47, _, _ => rfl
  | 48, _, _ => rfl
  | 49, _, _ => rfl
  | 50, _, _ => rfl
  | 51, _, _ => rfl
  | 52, _, _ => rfl
  | 53, _, _ => rfl
  | 54, _, _ => rfl
  | 55, _, _ => rfl
  | 56, _, _ => rfl
  | 57, _, _ => rfl
  | 58, _, _ => rfl
  | 59, _, _ => rfl
  | 60, _, _ => rfl
  | 61, _, _ => rfl
  | 62, _, _ => rfl
  | 63, _, _ => rfl
  | 64, _, _ => rfl
  | 65, _, _ => rfl
  | 66, _, _ => rfl
  | 67, _, _ => rfl
  | 68, _, _ => rfl
  | 69, _, _ => rfl
  | 70, _, _ => rfl
  | 71, _, _ => rfl
  | a + 72, _, h => exact absurd h (by omega)
def itb (F : Nat → pm_E) (x : Nat × Nat × Nat × Nat) : Bool := match F x.1 with | .inr (ci, fs) => Nat.beq ci x.2.1 && (match fs[x.2.2.1]? with | some (.ref b) => Nat.beq b x.2.2.2 | _ => false) | .inl _ => false
set_option maxRecDepth 100000 in
theorem itb_all (fm : Bool) (L : Nat) (xs : Nat → Int32) : ex_tab.all (itb (pm_fF fm L xs)) = true := rfl
theorem itb_ok {F : Nat → pm_E} {x : Nat × Nat × Nat × Nat} (h : itb F x = true) : ∃ fs, F x.1 = .inr (x.2.1, fs) ∧ fs[x.2.2.1]? = some (.ref x.2.2.2) := by
  unfold itb at h
  split at h
  · rename_i ci fs e
    rw [Bool.and_eq_true] at h
    obtain ⟨h1, h2⟩ := h
    have h1 := Nat.eq_of_beq_eq_true h1
    subst h1
    split at h2
    · rename_i b e2
      have h2 := Nat.eq_of_beq_eq_true h2
      exact ⟨fs, e, by rw [e2, h2]⟩
    · cases h2
  · cases h
set_option maxRecDepth 100000 in
theorem p4_K0 {fm : Bool} {L : Nat} {xs : Nat → Int32} {f : Nat → pm_E} (hf : ∀ i, i < 72 → f i = pm_fF fm L xs i) : ex_W (72, 52657, f) ∧ ex_K (72, 52657, f) := by
  refine ⟨fun a ci fs hb b1 b2 k v hv => ?_, fun a a1 a2 => ?_, Nat.le_refl _, fun x hx => ?_, fun x hx => ?_⟩
  · have hb : f a = .inr (ci, fs) := hb
    have w := iwb_all fm L xs a b1 b2
    rw [← hf a b2, hb] at w
    have hk : k < fs.length := (List.getElem?_eq_some_iff.mp hv).1
    have w2 := List.all_eq_true.mp (show (List.range fs.length).all (fun k => match fs[k]? with | some v => iwv (ex_ft ci k) v | none => true) = true from w) k (List.mem_range.mpr hk)
    rw [hv] at w2
    exact iwv_ok w2
  · show f a = _
    rw [hf a (by omega)]
    match a, a1, a2 with
    | 1, _, _ => rfl
    | 2, _, _ => rfl
    | 3, _, _ => rfl
    | 4, _, _ => rfl
    | 5, _, _ => rfl
    | 6, _, _ => rfl
    | 7, _, _ => rfl
    | 8, _, _ => rfl
    | 9, _, _ => rfl
    | 10, _, _ => rfl
    | 11, _, _ => rfl
    | 12, _, _ => rfl
    | 13, _, _ => rfl
    | 14, _, _ => rfl
    | a + 15, _, h => exact absurd h (by omega)
  · have w := itb_ok (List.all_eq_true.mp (itb_all fm L xs) x hx)
    have := ex_tab_lt x hx
    rw [← hf x.1 (by omega)] at w
    exact w
  · show ∃ n y, f x.1 = .inl (x.2, n, y)
    have := ex_bts_lt x hx
    rw [hf x.1 (by omega)]
    rcases List.mem_cons.mp hx with e | hx
    · rw [e]; exact ⟨_, _, rfl⟩
    rcases List.mem_cons.mp hx with e | hx
    · rw [e]; exact ⟨_, _, rfl⟩
    rcases List.mem_cons.mp hx with e | hx
    · rw [e]; exact ⟨_, _, rfl⟩
    cases hx
theorem p4_R0 {fm : Bool} {L : Nat} {xs : Nat → Int32} {f : Nat → pm_E} (hf : ∀ i, i < 72 → f i = pm_fF fm L xs i) : R1 (ex_V (72, 52657, f)) := by
  refine ⟨⟨fun j _ => ?_, fun j j1 j3 => ?_, fun s _ => ?_⟩, fun i b hi eb => ?_, fun i hi => ?_, fun i => ?_⟩
  · show ex_eX (f 18) j = ex_eX (f 42) _
    rw [hf 18 (by decide), hf 42 (by decide)]; rfl
  · rcases (show j = 1 ∨ j = 2 ∨ j = 3 by omega) with rfl | rfl | rfl
    · show ex_eX (f 17) 1 = ex_eX (f 43) 0
      rw [hf 17 (by decide), hf 43 (by decide)]; rfl
    · show ex_eX (f 17) 2 = ex_eX (f 44) 0
      rw [hf 17 (by decide), hf 44 (by decide)]; rfl
    · show ex_eX (f 17) 3 = ex_eX (f 45) 0
      rw [hf 17 (by decide), hf 45 (by decide)]; rfl
  · show ex_eX (f 23) s = ex_eX (f 46) _
    rw [hf 23 (by decide), hf 46 (by decide)]; rfl
  · have e : ex_eZ (f 24) i = some b := eb
    rw [hf 24 (by decide)] at e
    have e2 : (none : Option Nat) = some b := e
    cases e2
  · show ex_eZ (f 24) i = none ↔ ex_eX (f 71) i = 0
    rw [hf 24 (by decide), hf 71 (by decide)]
    exact ⟨fun _ => rfl, fun _ => rfl⟩
  · show sf_B _ _ (ex_eX (f 42) i)
    rw [hf 42 (by decide)]
    exact sf_z (by decide) (by decide)
theorem p4_I0 {fm : Bool} {L : Nat} {xs : Nat → Int32} {f : Nat → pm_E} (hf : ∀ i, i < 72 → f i = pm_fF fm L xs i) (I : p2_I L xs 0 (72, 52657, f)) : p4_I L xs 0 (72, 52657, f) := ⟨I, (p4_K0 hf).1, (p4_K0 hf).2, p4_R0 hf⟩
end
section
/-! WHAT A TEXT IS MADE OF: the makers of LIST, ROW, MEAL and HOUSE, with all that they keep -/
/-- cells below n are as they were -/
def lowEq (n : Nat) (S S_q : ex_S) : Prop := ∀ a, a < n → (∀ k, S_q.1 a k = S.1 a k) ∧ (∀ k, S_q.2.1 a k = S.2.1 a k) ∧ (∀ k, S_q.2.2.1 a k = S.2.2.1 a k) ∧ S_q.2.2.2.1 a = S.2.2.2.1 a
theorem lowEq.refl (n : Nat) (S : ex_S) : lowEq n S S := fun _ _ => ⟨fun _ => rfl, fun _ => rfl, fun _ => rfl, rfl⟩
theorem lowEq.trans {n : Nat} {S T U : ex_S} (h : lowEq n S T) (g : lowEq n T U) : lowEq n S U := fun a ha => ⟨fun k => ((g a ha).1 k).trans ((h a ha).1 k), fun k => ((g a ha).2.1 k).trans ((h a ha).2.1 k), fun k => ((g a ha).2.2.1 k).trans ((h a ha).2.2.1 k), (g a ha).2.2.2.trans (h a ha).2.2.2⟩
theorem lowEq.mono {n n_q : Nat} {S T : ex_S} (h : lowEq n S T) (hn : n_q ≤ n) : lowEq n_q S T := fun a ha => h a (by omega)
theorem lowEq.sx {n b k : Nat} {v : Int32} {S T : ex_S} (h : lowEq n S T) (hb : n ≤ b) : lowEq n S (ex_sx T b k v) := fun a ha => ⟨fun j => (ex_sx_ne (fun z => by omega)).trans ((h a ha).1 j), (h a ha).2.1, (h a ha).2.2.1, (h a ha).2.2.2⟩
theorem lowEq.sy {n b k : Nat} {v : Int64} {S T : ex_S} (h : lowEq n S T) (hb : n ≤ b) : lowEq n S (ex_sy T b k v) := fun a ha => ⟨(h a ha).1, fun j => by
  show (if a = b ∧ j = k then v else T.2.1 a j) = _
  rw [if_neg (fun z => by omega)]; exact (h a ha).2.1 j, (h a ha).2.2.1, (h a ha).2.2.2⟩
theorem lowEq.sz {n b k : Nat} {v : Option Nat} {S T : ex_S} (h : lowEq n S T) (hb : n ≤ b) : lowEq n S (ex_sz T b k v) := fun a ha => ⟨(h a ha).1, (h a ha).2.1, fun j => by
  show (if a = b ∧ j = k then v else T.2.2.1 a j) = _
  rw [if_neg (fun z => by omega)]; exact (h a ha).2.2.1 j, (h a ha).2.2.2⟩
theorem lowEq.new {n m : Nat} {S T : ex_S} (h : lowEq n S T) (hb : n ≤ T.2.2.2.2) : lowEq n S (ex_new T m) := fun a ha => by
  have ne : ¬ a = T.2.2.2.2 := by omega
  refine ⟨fun j => ?_, fun j => ?_, fun j => ?_, ?_⟩
  · show (if a = T.2.2.2.2 then 0 else T.1 a j) = _
    rw [if_neg ne]; exact (h a ha).1 j
  · show (if a = T.2.2.2.2 then 0 else T.2.1 a j) = _
    rw [if_neg ne]; exact (h a ha).2.1 j
  · show (if a = T.2.2.2.2 then none else T.2.2.1 a j) = _
    rw [if_neg ne]; exact (h a ha).2.2.1 j
  · show (if a = T.2.2.2.2 then m else T.2.2.2.1 a) = _
    rw [if_neg ne]; exact (h a ha).2.2.2
theorem lowEq.cl {n m : Nat} {S T : ex_S} (h : lowEq n S T) (hb : n ≤ T.2.2.2.2) : lowEq n S (ex_cl T m) := fun a ha => by
  have ne : ¬ a = T.2.2.2.2 := by omega
  refine ⟨fun j => ?_, fun j => ?_, fun j => ?_, ?_⟩
  · show (if a = T.2.2.2.2 then T.1 m j else T.1 a j) = _
    rw [if_neg ne]; exact (h a ha).1 j
  · show (if a = T.2.2.2.2 then 0 else T.2.1 a j) = _
    rw [if_neg ne]; exact (h a ha).2.1 j
  · show (if a = T.2.2.2.2 then none else T.2.2.1 a j) = _
    rw [if_neg ne]; exact (h a ha).2.2.1 j
  · show (if a = T.2.2.2.2 then T.2.2.2.1 m else T.2.2.2.1 a) = _
    rw [if_neg ne]; exact (h a ha).2.2.2
theorem lowEq.cp {n a sp b dp m : Nat} {S T : ex_S} (h : lowEq n S T) (hb : n ≤ b) : lowEq n S (ex_cp T a sp b dp m) := fun c hc => ⟨fun j => by
  show (if c = b ∧ dp ≤ j ∧ j < dp + m then T.1 a (sp + (j - dp)) else T.1 c j) = _
  rw [if_neg (fun z => by omega)]; exact (h c hc).1 j, (h c hc).2.1, (h c hc).2.2.1, (h c hc).2.2.2⟩
/-- rows of what a step shows -/
theorem sx2 (S : ex_S) (a k : Nat) (v : Int32) : (ex_sx S a k v).2 = S.2 := rfl
theorem sz_at (S : ex_S) (a k b j : Nat) (v : Option Nat) : (ex_sz S a k v).2.2.1 b j = if b = a ∧ j = k then v else S.2.2.1 b j := rfl
theorem sz_eq {S : ex_S} {a k : Nat} {v : Option Nat} : (ex_sz S a k v).2.2.1 a k = v := if_pos ⟨rfl, rfl⟩
theorem sz_ne {S : ex_S} {a k b j : Nat} {v : Option Nat} (h : ¬ (b = a ∧ j = k)) : (ex_sz S a k v).2.2.1 b j = S.2.2.1 b j := if_neg h
theorem sy_eq {S : ex_S} {a k : Nat} {v : Int64} : (ex_sy S a k v).2.1 a k = v := if_pos ⟨rfl, rfl⟩
theorem sy_at (S : ex_S) (a k b j : Nat) (v : Int64) : (ex_sy S a k v).2.1 b j = if b = a ∧ j = k then v else S.2.1 b j := rfl
theorem nw1 {S : ex_S} {n b : Nat} (h : ¬ b = S.2.2.2.2) (j : Nat) : (ex_new S n).1 b j = S.1 b j := if_neg h
theorem nw1e {S : ex_S} {n b : Nat} (h : b = S.2.2.2.2) (j : Nat) : (ex_new S n).1 b j = 0 := if_pos h
theorem nw2e {S : ex_S} {n b : Nat} (h : b = S.2.2.2.2) (j : Nat) : (ex_new S n).2.1 b j = 0 := if_pos h
theorem nw3 {S : ex_S} {n b : Nat} (h : ¬ b = S.2.2.2.2) (j : Nat) : (ex_new S n).2.2.1 b j = S.2.2.1 b j := if_neg h
theorem nw4 {S : ex_S} {n b : Nat} (h : ¬ b = S.2.2.2.2) : (ex_new S n).2.2.2.1 b = S.2.2.2.1 b := if_neg h
theorem nw4e {S : ex_S} {n b : Nat} (h : b = S.2.2.2.2) : (ex_new S n).2.2.2.1 b = n := if_pos h
theorem cl1 {S : ex_S} {n b : Nat} (h : ¬ b = S.2.2.2.2) (j : Nat) : (ex_cl S n).1 b j = S.1 b j := if_neg h
theorem cl1e {S : ex_S} {n b : Nat} (h : b = S.2.2.2.2) (j : Nat) : (ex_cl S n).1 b j = S.1 n j := if_pos h
theorem cl2 {S : ex_S} {n b : Nat} (h : ¬ b = S.2.2.2.2) (j : Nat) : (ex_cl S n).2.1 b j = S.2.1 b j := if_neg h
theorem cl3 {S : ex_S} {n b : Nat} (h : ¬ b = S.2.2.2.2) (j : Nat) : (ex_cl S n).2.2.1 b j = S.2.2.1 b j := if_neg h
theorem cl4 {S : ex_S} {n b : Nat} (h : ¬ b = S.2.2.2.2) : (ex_cl S n).2.2.2.1 b = S.2.2.2.1 b := if_neg h
/-- copyOf -/
def cpy (a0 : Nat) (a1 : Int32) (S : ex_S) (r : Option Nat) (S_q : ex_S) : Prop := r = some S.2.2.2.2 ∧ S_q.2.2.2.2 = S.2.2.2.2 + 1 ∧ lowEq S.2.2.2.2 S S_q ∧ ∀ n, a1 = Int32.ofNat n → n ≤ S.2.2.2.1 a0 → S.2.2.2.1 a0 ≤ 1000 → a0 < S.2.2.2.2 → ∀ j, j < n → S_q.1 S.2.2.2.2 j = S.1 a0 j
theorem ec45c : es45 cpy := by
  refine ev45 ?_ ?_
  · intro a n S c
    refine ⟨rfl, rfl, ((lowEq.refl _ S).new (Nat.le_refl _)).cp (Nat.le_refl _), fun m em hm hl ha j hj => ?_⟩
    rw [nw4 (by omega), em, if_pos ((n32_lt (by omega) (by omega)).mpr (by
      have : m ≠ S.2.2.2.1 a := fun z => c (by rw [em, z])
      omega)), n32_tn (by omega)]
    show (if S.2.2.2.2 = S.2.2.2.2 ∧ 0 ≤ j ∧ j < 0 + m then (ex_new S m).1 a (0 + (j - 0)) else _) = _
    rw [if_pos ⟨rfl, by omega, by omega⟩, nw1 (by omega), show 0 + (j - 0) = j by omega]
  · intro a n S c
    refine ⟨rfl, rfl, (lowEq.refl _ S).cl (Nat.le_refl _), fun m em hm hl ha j hj => ?_⟩
    exact cl1e rfl j
/-- the worn signs of a LIST: one hand more -/
def wso (near : Nat → Int32) (x : Int32) : Nat → Int32
  | 0 => x
  | i + 1 => if ((x.toUInt32 >>> ((Int32.ofNat i).toUInt32 &&& Int32.toUInt32 31)).toInt32) &&& 1 = 0 then wso near x i else wso near x i ||| near i
def wtab (near : Nat → Int32) : Nat → Nat → Int32
  | 0, s => 1 <<< (Int32.ofNat s &&& 31)
  | h + 1, s => wso near (wtab near h s) 10
/-- whether one of the first i signs changes by hand h + 1 -/
def wchi (near : Nat → Int32) (f : Nat → Int32) : Nat → Int32
  | 0 => 0
  | i + 1 => if wso near (f i) 10 = f i then wchi near f i else 1
def wrest (near : Nat → Int32) : Nat → Int32
  | 0 => 0
  | h + 1 => if wchi near (wtab near h) 10 = 0 then wrest near h else Int32.ofNat (h + 1)
theorem wchi_01 (near f : Nat → Int32) (i : Nat) : wchi near f i = 0 ∨ wchi near f i = 1 := by
  induction i with
  | zero => exact Or.inl rfl
  | succ i ih =>
    unfold wchi
    split
    · exact ih
    · exact Or.inr rfl
def cwq (t h : Nat) (a0 : Int32) (S : ex_S) : Prop := a0 = Int32.ofNat (h + 1) ∧ h < 9 ∧ S.2.2.1 t 6 = some (t + 2) ∧ S.2.2.1 t 4 = some (t + 5)
/-- i signs are done -/
def cwd (t h i : Nat) (S T : ex_S) : Prop := T.2 = S.2 ∧ (∀ c k, ¬ (c = t + 2 ∧ 10 * (h + 1) ≤ k ∧ k < 10 * (h + 1) + i) → T.1 c k = S.1 c k) ∧ ∀ s, s < i → T.1 (t + 2) (10 * (h + 1) + s) = wso (S.1 (t + 5)) (S.1 (t + 2) (10 * h + s)) 10
def cw (t : Nat) (a0 : Int32) (S : ex_S) (v : Int32) (S_q : ex_S) : Prop := ∀ h, cwq t h a0 S → cwd t h 10 S S_q ∧ v = wchi (S.1 (t + 5)) (fun s => S.1 (t + 2) (10 * h + s)) 10
def cvI (t : Nat) (a0 : Int32) (S : ex_S) (x2 x3 : Int32) (T : ex_S) : Prop := ∀ h, cwq t h a0 S → ∃ i, i ≤ 10 ∧ x3 = Int32.ofNat i ∧ cwd t h i S T ∧ x2 = wchi (S.1 (t + 5)) (fun s => S.1 (t + 2) (10 * h + s)) i
def cvJ (t : Nat) (a0 : Int32) (S : ex_S) (x2 x3 x4 x5 x6 : Int32) (T : ex_S) : Prop := ∀ h, cwq t h a0 S → ∃ i o, i < 10 ∧ x3 = Int32.ofNat i ∧ cwd t h i S T ∧ x2 = wchi (S.1 (t + 5)) (fun s => S.1 (t + 2) (10 * h + s)) i ∧ x4 = S.1 (t + 2) (10 * h + i) ∧ o ≤ 10 ∧ x6 = Int32.ofNat o ∧ x5 = wso (S.1 (t + 5)) x4 o
theorem cw_ix {h i : Nat} (hh : h < 10) (hi : i ≤ 10) : (Int32.ofNat h * 10 + Int32.ofNat i).toNatClampNeg = 10 * h + i := by
  rw [show (10 : Int32) = Int32.ofNat 10 from rfl, ← Int32.ofNat_mul, n32_add, n32_tn (by omega)]
  omega
theorem n32_p (h : Nat) : Int32.ofNat (h + 1) - 1 = Int32.ofNat h := by
  rw [show (1 : Int32) = Int32.ofNat 1 from rfl, n32_sub (by omega)]; rfl
theorem cwd_z {t h i : Nat} {S T : ex_S} {b k : Nat} (d : cwd t h i S T) (q : S.2.2.1 t k = some b) {b_q : Nat} (e : T.2.2.1 t k = some b_q) : b_q = b := by
  rw [d.1, q] at e; cases e; rfl
theorem ec46c : es46 cw := by
  refine ev46 (I4 := cvI) (I32 := cvJ) ?_ ?_ ?_ ?_ ?_ ?_ ?_
  · intro t a0 S h q
    exact ⟨0, by omega, rfl, ⟨rfl, fun _ _ _ => rfl, fun s hs => by omega⟩, rfl⟩
  · intro t a0 S x2 x3 T I c h q
    obtain ⟨i, i1, i2, i3, i4⟩ := I h q
    rw [i2, show (10 : Int32) = Int32.ofNat 10 from rfl, n32_le (by omega) (by omega)] at c
    have : i = 10 := by omega
    subst this
    exact ⟨i3, i4⟩
  · intro t a0 S x2 x3 T I c b e h q
    obtain ⟨i, i1, i2, i3, i4⟩ := I h q
    rw [i2, show (10 : Int32) = Int32.ofNat 10 from rfl, n32_le (by omega) (by omega)] at c
    have eb := cwd_z i3 q.2.2.1 e
    subst eb
    refine ⟨i, 0, by omega, i2, i3, i4, ?_, by omega, rfl, rfl⟩
    rw [q.1, n32_p, i2, cw_ix (by have := q.2.1; omega) (by omega), i3.2.1 _ _ (fun z => by omega)]
  · intro t a0 S x2 x3 x4 x5 x6 T J c b e c2 h q
    obtain ⟨i, o, i1, i2, i3, i4, i5, o1, o2, o3⟩ := J h q
    rw [o2, show (10 : Int32) = Int32.ofNat 10 from rfl, n32_le (by omega) (by omega)] at c
    have : o = 10 := by omega
    subst this
    have eb := cwd_z i3 q.2.2.1 e
    subst eb
    refine ⟨i + 1, by omega, by rw [i2]; exact n32_s i, ⟨i3.1, fun c k hc => ?_, fun s hs => ?_⟩, ?_⟩
    · rw [q.1, i2, cw_ix (by have := q.2.1; omega) (by omega), ex_sx_ne (fun z => hc ⟨z.1, by omega, by omega⟩)]
      exact i3.2.1 c k (fun z => hc ⟨z.1, z.2.1, by omega⟩)
    · rw [q.1, i2, cw_ix (by have := q.2.1; omega) (by omega), ex_sx_at]
      by_cases y : s = i
      · subst y
        rw [if_pos ⟨rfl, rfl⟩, o3, i5]
      · rw [if_neg (fun z => y (by omega))]; exact i3.2.2 s (by omega)
    · show x2 ||| 0 = if wso (S.1 (t + 5)) (S.1 (t + 2) (10 * h + i)) 10 = S.1 (t + 2) (10 * h + i) then _ else 1
      rw [← i5, ← o3, if_pos c2, i4]; exact Int32.or_zero
  · intro t a0 S x2 x3 x4 x5 x6 T J c b e c2 h q
    obtain ⟨i, o, i1, i2, i3, i4, i5, o1, o2, o3⟩ := J h q
    rw [o2, show (10 : Int32) = Int32.ofNat 10 from rfl, n32_le (by omega) (by omega)] at c
    have : o = 10 := by omega
    subst this
    have eb := cwd_z i3 q.2.2.1 e
    subst eb
    refine ⟨i + 1, by omega, by rw [i2]; exact n32_s i, ⟨i3.1, fun c k hc => ?_, fun s hs => ?_⟩, ?_⟩
    · rw [q.1, i2, cw_ix (by have := q.2.1; omega) (by omega), ex_sx_ne (fun z => hc ⟨z.1, by omega, by omega⟩)]
      exact i3.2.1 c k (fun z => hc ⟨z.1, z.2.1, by omega⟩)
    · rw [q.1, i2, cw_ix (by have := q.2.1; omega) (by omega), ex_sx_at]
      by_cases y : s = i
      · subst y
        rw [if_pos ⟨rfl, rfl⟩, o3, i5]
      · rw [if_neg (fun z => y (by omega))]; exact i3.2.2 s (by omega)
    · show x2 ||| 1 = if wso (S.1 (t + 5)) (S.1 (t + 2) (10 * h + i)) 10 = S.1 (t + 2) (10 * h + i) then _ else 1
      rw [← i5, ← o3, if_neg c2, i4]
      rcases wchi_01 (S.1 (t + 5)) (fun s => S.1 (t + 2) (10 * h + s)) i with w | w <;> rw [w] <;> decide
  · intro t a0 S x2 x3 x4 x5 x6 T J c c2 h q
    obtain ⟨i, o, i1, i2, i3, i4, i5, o1, o2, o3⟩ := J h q
    rw [o2, show (10 : Int32) = Int32.ofNat 10 from rfl, n32_le (by omega) (by omega)] at c
    refine ⟨i, o + 1, i1, i2, i3, i4, i5, by omega, by rw [o2]; exact n32_s o, ?_⟩
    rw [o2] at c2
    unfold wso
    rw [if_pos c2]; exact o3
  · intro t a0 S x2 x3 x4 x5 x6 T J c c2 b e h q
    obtain ⟨i, o, i1, i2, i3, i4, i5, o1, o2, o3⟩ := J h q
    rw [o2, show (10 : Int32) = Int32.ofNat 10 from rfl, n32_le (by omega) (by omega)] at c
    have eb := cwd_z i3 q.2.2.2 e
    subst eb
    refine ⟨i, o + 1, i1, i2, i3, i4, i5, by omega, by rw [o2]; exact n32_s o, ?_⟩
    rw [o2] at c2
    unfold wso
    rw [if_neg c2, o3, o2, n32_tn (by omega), i3.2.1 _ _ (fun z => by omega)]
/-- a LIST is made at t -/
def mLq (t : Nat) (S : ex_S) : Prop := t + 1 = S.2.2.2.2 ∧ 72 ≤ t ∧ S.2.2.2.1 26 = 200 ∧ S.2.2.2.1 27 = 64
def mLb (t : Nat) (S T : ex_S) : Prop := lowEq t S T ∧ T.2.2.2.2 = t + 6 ∧ (T.2.2.1 t 5 = some (t + 1) ∧ T.2.2.1 t 6 = some (t + 2) ∧ T.2.2.1 t 1 = some (t + 3) ∧ T.2.2.1 t 3 = some (t + 4) ∧ T.2.2.1 t 4 = some (t + 5)) ∧ T.1 t 0 = S.1 25 4 ∧ T.1 t 2 = S.1 25 6 ∧ (∀ rc, S.1 25 4 = Int32.ofNat rc → rc ≤ 50 → ∀ j, j < 4 * rc → T.1 (t + 3) j = S.1 26 j) ∧ (∀ tc, S.1 25 6 = Int32.ofNat tc → tc ≤ 16 → ∀ j, j < 4 * tc → T.1 (t + 4) j = S.1 27 j) ∧ ∀ j, T.1 (t + 5) j = S.1 28 j
/-- numbers of the two tables, and how long it takes, may change -/
theorem mLb.sx {t b k : Nat} {v : Int32} {S T : ex_S} (h : mLb t S T) (hb : b = t + 2 ∨ (b = t ∧ k = 7)) : mLb t S (ex_sx T b k v) := by
  obtain ⟨a1, a2, a3, a4, a5, a6, a7, a8⟩ := h
  refine ⟨a1.sx (by omega), a2, a3, (ex_sx_ne (by omega)).trans a4, (ex_sx_ne (by omega)).trans a5, fun rc e h j hj => (ex_sx_ne (by omega)).trans (a6 rc e h j hj), fun tc e h j hj => (ex_sx_ne (by omega)).trans (a7 tc e h j hj), fun j => (ex_sx_ne (by omega)).trans (a8 j)⟩
theorem mLb.sy {t k : Nat} {v : Int64} {S T : ex_S} (h : mLb t S T) : mLb t S (ex_sy T (t + 1) k v) := by
  obtain ⟨a1, a2, a3, a4⟩ := h
  exact ⟨a1.sy (by omega), a2, a3, a4⟩
theorem mLb.cw {t h : Nat} {S T U : ex_S} (m : mLb t S T) (d : cwd t h 10 T U) : mLb t S U := by
  obtain ⟨a1, a2, a3, a4, a5, a6, a7, a8⟩ := m
  obtain ⟨d1, d2, _⟩ := d
  refine ⟨fun a ha => ⟨fun k => (d2 a k (by omega)).trans ((a1 a ha).1 k), fun k => by rw [d1]; exact (a1 a ha).2.1 k, fun k => by rw [d1]; exact (a1 a ha).2.2.1 k, by rw [d1]; exact (a1 a ha).2.2.2⟩, by rw [d1]; exact a2, by rw [d1]; exact a3, (d2 _ _ (by omega)).trans a4, (d2 _ _ (by omega)).trans a5, fun rc e h j hj => (d2 _ _ (by omega)).trans (a6 rc e h j hj), fun tc e h j hj => (d2 _ _ (by omega)).trans (a7 tc e h j hj), fun j => (d2 _ _ (by omega)).trans (a8 j)⟩
/-- values of readings, the first i of them -/
def vtab (r : Nat → Int32) : Nat → Nat → Int64
  | 0, _ => 0
  | i + 1, j => if j = ((r (4 * i) * 6) + r (4 * i + 1)).toNatClampNeg then vtab r i j ||| ((1 : Int64) <<< ((r (4 * i + 2)).toInt64 &&& 63)) else vtab r i j
theorem vtab_s (r : Nat → Int32) (i j : Nat) : vtab r (i + 1) j = if j = ((r (4 * i) * 6) + r (4 * i + 1)).toNatClampNeg then vtab r i j ||| ((1 : Int64) <<< ((r (4 * i + 2)).toInt64 &&& 63)) else vtab r i j := rfl
def mLv (t : Nat) (S T : ex_S) : Prop := ∀ tc, S.1 25 6 = Int32.ofNat tc → tc ≤ 16 → ∀ j, T.2.1 (t + 1) j = vtab (S.1 27) tc j
def mL (t : Nat) (S S_q : ex_S) : Prop := mLq t S → mLb t S S_q ∧ mLv t S S_q ∧ (∀ g s, g < 10 → s < 10 → S_q.1 (t + 2) (10 * g + s) = wtab (S.1 28) g s) ∧ S_q.1 t 7 = wrest (S.1 28) 9
def mLI (t : Nat) (S : ex_S) (x : Int32) (T : ex_S) : Prop := mLq t S → mLb t S T ∧ ∃ i, x = Int32.ofNat i ∧ ∀ tc, S.1 25 6 = Int32.ofNat tc → tc ≤ 16 → i ≤ tc ∧ ∀ j, T.2.1 (t + 1) j = vtab (S.1 27) i j
def mLJ (t : Nat) (S : ex_S) (x : Int32) (T : ex_S) : Prop := mLq t S → mLb t S T ∧ mLv t S T ∧ ∃ i, i ≤ 10 ∧ x = Int32.ofNat i ∧ ∀ j, j < i → T.1 (t + 2) j = 1 <<< (Int32.ofNat j &&& 31)
def mLK (t : Nat) (S : ex_S) (x2 x3 : Int32) (T : ex_S) : Prop := mLq t S → mLb t S T ∧ mLv t S T ∧ ∃ h, h ≤ 9 ∧ x3 = Int32.ofNat (h + 1) ∧ x2 = wrest (S.1 28) h ∧ ∀ g s, g ≤ h → s < 10 → T.1 (t + 2) (10 * g + s) = wtab (S.1 28) g s
theorem wso_cg {f g : Nat → Int32} (h : ∀ j, f j = g j) (x : Int32) (i : Nat) : wso f x i = wso g x i := by
  rw [show f = g from funext h]
theorem wchi_cg {near f g : Nat → Int32} (i : Nat) (h : ∀ j, j < i → f j = g j) : wchi near f i = wchi near g i := by
  induction i with
  | zero => rfl
  | succ i ih =>
    unfold wchi
    rw [h i (by omega), ih (fun j hj => h j (by omega))]
theorem ec44c : es44 mL := by
  refine ev44 (I86 := mLI) (I144 := mLJ) (I169 := mLK) ec45c ec46c ?_ ?_ ?_ ?_ ?_ ?_ ?_ ?_
  · intro t S r2 S3 h3 r6 S7 h7 q
    obtain ⟨q1, q2, q3, q4⟩ := q
    -- up to the first copy
    generalize eU : (ex_sx (ex_sz (ex_new (ex_sz (ex_new S 60) t 5 (some S.2.2.2.2)) 100) t 6 (some ((ex_new S 60).2.2.2.2))) t 0 ((ex_new (ex_sz (ex_new S 60) t 5 (some S.2.2.2.2)) 100).1 25 4)) = U at h3
    have n1 : (ex_new S 60).2.2.2.2 = t + 2 := by
      show S.2.2.2.2 + 1 = t + 2
      omega
    have Lo : lowEq t S U := by
      subst eU
      exact ((((((lowEq.refl t S).new (by omega)).sz (Nat.le_refl _)).new (by show t ≤ S.2.2.2.2 + 1; omega)).sz (Nat.le_refl _)).sx (Nat.le_refl _))
    have Ut : U.2.2.2.2 = t + 3 := by
      subst eU
      show S.2.2.2.2 + 1 + 1 = t + 3
      omega
    have U25 : (ex_new (ex_sz (ex_new S 60) t 5 (some S.2.2.2.2)) 100).1 25 4 = S.1 25 4 := by
      rw [nw1 (by show ¬ 25 = S.2.2.2.2 + 1; omega)]
      exact nw1 (n := 60) (by omega) _
    have U0 : U.1 t 0 = S.1 25 4 := by
      subst eU
      rw [ex_sx_eq]; exact U25
    have U5 : U.2.2.1 t 5 = some (t + 1) := by
      subst eU
      rw [sx2, sz_ne (by omega), nw3 (by show ¬ t = S.2.2.2.2 + 1; omega), sz_eq, q1]
    have U6 : U.2.2.1 t 6 = some (t + 2) := by
      subst eU
      rw [sx2, sz_eq, n1]
    have Uv : ∀ j, U.2.1 (t + 1) j = 0 := fun j => by
      subst eU
      show (if t + 1 = S.2.2.2.2 + 1 then (0 : Int64) else if t + 1 = S.2.2.2.2 then 0 else S.2.1 (t + 1) j) = 0
      rw [if_neg (by omega), if_pos q1]
    clear eU
    rw [U25] at h3
    obtain ⟨c1, c2, c3, c4⟩ := h3
    rw [Ut] at c1 c2 c3 c4
    have e26 : S3.1 25 6 = S.1 25 6 := ((c3 25 (by omega)).1 6).trans ((Lo 25 (by omega)).1 6)
    -- up to the second copy
    generalize eV : (ex_sx (ex_sz S3 t 1 r2) t 2 (S3.1 25 6)) = V at h7
    have LV : lowEq t S V := by
      subst eV
      exact ((Lo.trans (c3.mono (by omega))).sz (Nat.le_refl _)).sx (Nat.le_refl _)
    have Vt : V.2.2.2.2 = t + 4 := by subst eV; exact c2
    have V0 : V.1 t 0 = S.1 25 4 := by
      subst eV
      rw [ex_sx_ne (by omega)]
      exact ((c3 t (by omega)).1 0).trans U0
    have V2 : V.1 t 2 = S.1 25 6 := by
      subst eV
      rw [ex_sx_eq]; exact e26
    have Vz : V.2.2.1 t 5 = some (t + 1) ∧ V.2.2.1 t 6 = some (t + 2) ∧ V.2.2.1 t 1 = some (t + 3) := by
      subst eV
      refine ⟨?_, ?_, ?_⟩
      · rw [sx2, sz_ne (by omega)]; exact ((c3 t (by omega)).2.2.1 5).trans U5
      · rw [sx2, sz_ne (by omega)]; exact ((c3 t (by omega)).2.2.1 6).trans U6
      · rw [sx2, sz_eq, c1]
    have V3 : ∀ rc, S.1 25 4 = Int32.ofNat rc → rc ≤ 50 → ∀ j, j < 4 * rc → V.1 (t + 3) j = S.1 26 j := fun rc e hr j hj => by
      subst eV
      rw [ex_sx_ne (by omega)]
      refine (c4 (4 * rc) (by rw [e]; exact n32_m4 rc) ?_ ?_ (by omega) j hj).trans ((Lo 26 (by omega)).1 j)
      · rw [(Lo 26 (by omega)).2.2.2, q3]; omega
      · rw [(Lo 26 (by omega)).2.2.2, q3]; omega
    have Vv : ∀ j, V.2.1 (t + 1) j = 0 := fun j => by
      subst eV
      exact ((c3 (t + 1) (by omega)).2.1 j).trans (Uv j)
    clear eV
    rw [e26] at h7
    obtain ⟨d1, d2, d3, d4⟩ := h7
    rw [Vt] at d1 d2 d3 d4
    have L7 : lowEq t S S7 := LV.trans (d3.mono (by omega))
    have tp : (ex_sz S7 t 3 r6).2.2.2.2 = t + 5 := d2
    refine ⟨⟨((L7.sz (Nat.le_refl _)).cl (by omega)).sz (Nat.le_refl _), ?_, ⟨?_, ?_, ?_, ?_, ?_⟩, ?_, ?_, fun rc e hr j hj => ?_, fun tc e ht j hj => ?_, fun j => ?_⟩, 0, rfl, fun tc e ht => ⟨Nat.zero_le _, fun j => ?_⟩⟩
    · show S7.2.2.2.2 + 1 = t + 6
      omega
    · rw [sz_ne (by omega), cl3 (by omega), sz_ne (by omega)]; exact ((d3 t (by omega)).2.2.1 5).trans Vz.1
    · rw [sz_ne (by omega), cl3 (by omega), sz_ne (by omega)]; exact ((d3 t (by omega)).2.2.1 6).trans Vz.2.1
    · rw [sz_ne (by omega), cl3 (by omega), sz_ne (by omega)]; exact ((d3 t (by omega)).2.2.1 1).trans Vz.2.2
    · rw [sz_ne (by omega), cl3 (by omega), sz_eq, d1]
    · rw [sz_eq]; exact congrArg some d2
    · show (ex_cl (ex_sz S7 t 3 r6) 28).1 t 0 = _
      rw [cl1 (by omega)]; exact ((d3 t (by omega)).1 0).trans V0
    · show (ex_cl (ex_sz S7 t 3 r6) 28).1 t 2 = _
      rw [cl1 (by omega)]; exact ((d3 t (by omega)).1 2).trans V2
    · show (ex_cl (ex_sz S7 t 3 r6) 28).1 (t + 3) j = _
      rw [cl1 (by omega)]; exact ((d3 (t + 3) (by omega)).1 j).trans (V3 rc e hr j hj)
    · show (ex_cl (ex_sz S7 t 3 r6) 28).1 (t + 4) j = _
      rw [cl1 (by omega)]
      refine (d4 (4 * tc) (by rw [e]; exact n32_m4 tc) ?_ ?_ (by omega) j hj).trans ((LV 27 (by omega)).1 j)
      · rw [(LV 27 (by omega)).2.2.2, q4]; omega
      · rw [(LV 27 (by omega)).2.2.2, q4]; omega
    · show (ex_cl (ex_sz S7 t 3 r6) 28).1 (t + 5) j = _
      rw [cl1e (by omega)]
      exact (L7 28 (by omega)).1 j
    · show (ex_cl (ex_sz S7 t 3 r6) 28).2.1 (t + 1) j = 0
      rw [cl2 (by omega)]; exact ((d3 (t + 1) (by omega)).2.1 j).trans (Vv j)
  · intro t S x T I c q
    obtain ⟨m, i, i1, i2⟩ := I q
    refine ⟨m, fun tc e ht j => ?_, 0, by omega, rfl, fun j hj => by omega⟩
    obtain ⟨i3, i4⟩ := i2 tc e ht
    rw [m.2.2.2.2.1, e, i1, n32_le (by omega) (by omega)] at c
    have : i = tc := by omega
    subst this
    exact i4 j
  · intro t S x T I c b1 e1 b2 e2 q
    obtain ⟨m, i, i1, i2⟩ := I q
    rw [m.2.2.1.2.2.2.1] at e1; cases e1
    rw [m.2.2.1.1] at e2; cases e2
    refine ⟨m.sy, i + 1, by rw [i1]; exact n32_s i, fun tc e ht => ?_⟩
    obtain ⟨i3, i4⟩ := i2 tc e ht
    rw [m.2.2.2.2.1, e, i1, n32_le (by omega) (by omega)] at c
    have x0 : (x * 4).toNatClampNeg = 4 * i := by rw [i1, n32_m4, n32_tn (by omega)]
    have x1 : ((x * 4) + 1).toNatClampNeg = 4 * i + 1 := by rw [i1, n32_m4, n32_s, n32_tn (by omega)]
    have x2 : ((x * 4) + 2).toNatClampNeg = 4 * i + 2 := by rw [i1, n32_m4, show (2 : Int32) = Int32.ofNat 2 from rfl, n32_add, n32_tn (by omega)]
    have r := m.2.2.2.2.2.2.1 tc e ht
    refine ⟨by omega, fun j => ?_⟩
    rw [x0, x1, x2, r (4 * i) (by omega), r (4 * i + 1) (by omega), r (4 * i + 2) (by omega), sy_at, i4, i4, vtab_s]
    by_cases z : j = ((S.1 27 (4 * i) * 6) + S.1 27 (4 * i + 1)).toNatClampNeg
    · rw [if_pos ⟨rfl, z⟩, if_pos z, ← z]
    · rw [if_neg (fun y => z y.2), if_neg z]
  · intro t S x T I c q
    obtain ⟨m, v, i, i1, i2, i3⟩ := I q
    rw [i2, show (10 : Int32) = Int32.ofNat 10 from rfl, n32_le (by omega) (by omega)] at c
    refine ⟨m, v, 0, by omega, rfl, rfl, fun g s hg hs => ?_⟩
    have : g = 0 := by omega
    subst this
    rw [show 10 * 0 + s = s by omega]
    exact i3 s (by omega)
  · intro t S x T I c b e q
    obtain ⟨m, v, i, i1, i2, i3⟩ := I q
    rw [i2, show (10 : Int32) = Int32.ofNat 10 from rfl, n32_le (by omega) (by omega)] at c
    rw [m.2.2.1.2.1] at e; cases e
    refine ⟨m.sx (Or.inl rfl), v, i + 1, by omega, by rw [i2]; exact n32_s i, fun j hj => ?_⟩
    rw [i2, n32_tn (by omega), ex_sx_at]
    by_cases z : j = i
    · rw [if_pos ⟨rfl, z⟩, z]
    · rw [if_neg (fun y => z y.2)]; exact i3 j (by omega)
  · intro t S x2 x3 T I c q
    obtain ⟨m, v, h, h1, h2, h3, h4⟩ := I q
    rw [h2, show (9 : Int32) = Int32.ofNat 9 from rfl, n32_lt (by omega) (by omega)] at c
    have : h = 9 := by omega
    subst this
    exact ⟨m.sx (Or.inr ⟨rfl, rfl⟩), v, fun g s hg hs => (ex_sx_ne (by omega)).trans (h4 g s (by omega) hs), by rw [ex_sx_eq]; exact h3⟩
  · intro t S x2 x3 T I c r U w c2 q
    obtain ⟨m, v, h, h1, h2, h3, h4⟩ := I q
    rw [h2, show (9 : Int32) = Int32.ofNat 9 from rfl, n32_lt (by omega) (by omega)] at c
    obtain ⟨w1, w2⟩ := w h ⟨h2, by omega, m.2.2.1.2.1, m.2.2.1.2.2.2.2⟩
    have en : T.1 (t + 5) = S.1 28 := by funext j; exact m.2.2.2.2.2.2.2 j
    rw [en] at w2
    refine ⟨m.cw w1, fun tc e ht j => by rw [w1.1]; exact v tc e ht j, h + 1, by omega, by rw [h2]; exact n32_s _, ?_, fun g s hg hs => ?_⟩
    · have y := w2
      rw [c2, wchi_cg 10 (fun s hs => h4 h s (Nat.le_refl _) hs)] at y
      unfold wrest
      rw [if_pos y.symm]; exact h3
    · by_cases z : g = h + 1
      · subst z
        rw [w1.2.2 s hs, en, h4 h s (Nat.le_refl _) hs]; rfl
      · rw [w1.2.1 _ _ (fun y => by omega)]; exact h4 g s (by omega) hs
  · intro t S x2 x3 T I c r U w c2 q
    obtain ⟨m, v, h, h1, h2, h3, h4⟩ := I q
    rw [h2, show (9 : Int32) = Int32.ofNat 9 from rfl, n32_lt (by omega) (by omega)] at c
    obtain ⟨w1, w2⟩ := w h ⟨h2, by omega, m.2.2.1.2.1, m.2.2.1.2.2.2.2⟩
    have en : T.1 (t + 5) = S.1 28 := by funext j; exact m.2.2.2.2.2.2.2 j
    rw [en] at w2
    refine ⟨m.cw w1, fun tc e ht j => by rw [w1.1]; exact v tc e ht j, h + 1, by omega, by rw [h2]; exact n32_s _, ?_, fun g s hg hs => ?_⟩
    · have y := w2
      rw [wchi_cg 10 (fun s hs => h4 h s (Nat.le_refl _) hs)] at y
      unfold wrest
      rw [if_neg (fun z => c2 (y.trans z)), h2]
    · by_cases z : g = h + 1
      · subst z
        rw [w1.2.2 s hs, en, h4 h s (Nat.le_refl _) hs]; rfl
      · rw [w1.2.1 _ _ (fun y => by omega)]; exact h4 g s (by omega) hs
/-- a ROW is made at t -/
def mR (t : Nat) (S S_q : ex_S) : Prop := t + 1 = S.2.2.2.2 → 72 ≤ t → S.2.2.2.1 26 = 200 → lowEq t S S_q ∧ S_q.2.2.2.2 = t + 2 ∧ S_q.2.2.1 t 1 = some (t + 1) ∧ S_q.1 t 0 = S.1 25 4 ∧ ∀ n, S.1 25 4 = Int32.ofNat n → n ≤ 12 → ∀ j, j < n → S_q.1 (t + 1) j = S.1 26 j
theorem ec47c : es47 mR := by
  refine ev47 ec45c ?_
  intro t S r S3 h q1 q2 q3
  obtain ⟨c1, c2, c3, c4⟩ := h
  rw [sx2] at c1 c2 c3 c4
  rw [← q1] at c1 c2 c3 c4
  have L : lowEq t S S3 := ((lowEq.refl t S).sx (Nat.le_refl _)).trans (c3.mono (by omega))
  refine ⟨L.sz (Nat.le_refl _), c2, ?_, ((c3 t (by omega)).1 0).trans ex_sx_eq, fun n e hn j hj => ?_⟩
  · rw [sz_eq]; exact c1
  · refine (c4 n e ?_ ?_ (by omega) j hj).trans (ex_sx_ne (by omega))
    · rw [q3]; omega
    · rw [q3]; omega
/-- a HOUSE is made at t -/
def mH (t : Nat) (S S_q : ex_S) : Prop := t + 1 = S.2.2.2.2 → 72 ≤ t → S.2.2.2.1 26 = 200 → lowEq t S S_q ∧ S_q.2.2.2.2 = t + 2 ∧ S_q.2.2.1 t 1 = some (t + 1) ∧ S_q.1 t 0 = S.1 25 4 ∧ ∀ n, S.1 25 4 = Int32.ofNat n → n ≤ 50 → ∀ j, j < 4 * n → S_q.1 (t + 1) j = S.1 26 j
theorem ec54c : es54 mH := by
  refine ev54 ec45c ?_
  intro t S r S3 h q1 q2 q3
  obtain ⟨c1, c2, c3, c4⟩ := h
  rw [sx2] at c1 c2 c3 c4
  rw [← q1] at c1 c2 c3 c4
  have L : lowEq t S S3 := ((lowEq.refl t S).sx (Nat.le_refl _)).trans (c3.mono (by omega))
  refine ⟨L.sz (Nat.le_refl _), c2, ?_, ((c3 t (by omega)).1 0).trans ex_sx_eq, fun n e hn j hj => ?_⟩
  · rw [sz_eq]; exact c1
  · refine (c4 (4 * n) (by rw [e]; exact n32_m4 n) ?_ ?_ (by omega) j hj).trans (ex_sx_ne (by omega))
    · rw [q3]; omega
    · rw [q3]; omega
end
section
/-! a MEAL is made -/
def cfl (a : Option Nat) (a1 a2 a3 : Int32) (S S_q : ex_S) : Prop := S_q.2 = S.2 ∧ (∀ c k, a ≠ some c → S_q.1 c k = S.1 c k) ∧ ∀ b lo hi, a = some b → a1 = Int32.ofNat lo → a2 = Int32.ofNat hi → lo ≤ hi → hi ≤ 1000000 → ∀ c k, S_q.1 c k = if c = b ∧ lo ≤ k ∧ k < hi then a3 else S.1 c k
theorem ec49c : es49 cfl := by
  refine ev49 (I10 := fun a a1 a2 a3 S x T => T.2 = S.2 ∧ (∀ c k, a ≠ some c → T.1 c k = S.1 c k) ∧ ∀ b lo hi, a = some b → a1 = Int32.ofNat lo → a2 = Int32.ofNat hi → lo ≤ hi → hi ≤ 1000000 → ∃ i, lo ≤ i ∧ i ≤ hi ∧ x = Int32.ofNat i ∧ ∀ c k, T.1 c k = if c = b ∧ lo ≤ k ∧ k < i then a3 else S.1 c k) ec50 ?_ ?_ ?_
  · intro a a1 a2 a3 S b e S5 h
    rw [h]
    refine ⟨rfl, fun _ _ _ => rfl, fun b_q lo hi e1 e2 e3 l1 l2 => ⟨lo, Nat.le_refl _, l1, e2, fun c k => ?_⟩⟩
    rw [if_neg (fun z => by omega)]
  · intro a a1 a2 a3 S x T I c
    refine ⟨I.1, I.2.1, fun b lo hi e1 e2 e3 l1 l2 c_q k => ?_⟩
    obtain ⟨i, i1, i2, i3, i4⟩ := I.2.2 b lo hi e1 e2 e3 l1 l2
    rw [e3, i3, n32_le (by omega) (by omega)] at c
    have : i = hi := by omega
    subst this
    exact i4 c_q k
  · intro a a1 a2 a3 S x T I c b8 e8
    refine ⟨I.1, fun c_q k z => (ex_sx_ne (fun y => z (by rw [e8, y.1]))).trans (I.2.1 c_q k z), fun b lo hi e1 e2 e3 l1 l2 => ?_⟩
    obtain ⟨i, i1, i2, i3, i4⟩ := I.2.2 b lo hi e1 e2 e3 l1 l2
    rw [e3, i3, n32_le (by omega) (by omega)] at c
    have eb : b8 = b := by rw [e1] at e8; cases e8; rfl
    subst eb
    refine ⟨i + 1, by omega, by omega, by rw [i3]; exact n32_s i, fun c_q k => ?_⟩
    rw [i3, n32_tn (by omega), ex_sx_at, i4]
    by_cases q : c_q = b8 ∧ k = i
    · rw [if_pos q, if_pos ⟨q.1, by omega, by omega⟩]
    · rw [if_neg q]
      by_cases w : c_q = b8 ∧ lo ≤ k ∧ k < i
      · rw [if_pos w, if_pos ⟨w.1, w.2.1, by omega⟩]
      · rw [if_neg w, if_neg (fun z => w ⟨z.1, z.2.1, by
          have : ¬ k = i := fun y => q ⟨z.1, y⟩
          omega⟩)]
def c51 (t : Nat) (a0 : Int32) (S : ex_S) (v : Int32) (S_q : ex_S) : Prop := S_q = S ∧ ∀ b, S.2.2.1 t 2 = some b → v = if S.1 b ((a0 * 4).toNatClampNeg) = 2 then 1 else 0
theorem ec51c : es51 c51 := by
  refine ev51 ?_ ?_
  · intro t a0 S b e c
    refine ⟨rfl, fun b_q e_q => ?_⟩
    rw [e] at e_q; cases e_q
    rw [if_neg c]
  · intro t a0 S b e c
    refine ⟨rfl, fun b_q e_q => ?_⟩
    rw [e] at e_q; cases e_q
    rw [if_pos (Classical.not_not.mp c)]
def c52 (t : Nat) (a0 : Int32) (S : ex_S) (v : Int32) (S_q : ex_S) : Prop := S_q = S ∧ ∀ b, S.2.2.1 t 2 = some b → v = S.1 b (((a0 * 4) + 1).toNatClampNeg)
theorem ec52c : es52 c52 := by
  refine ev52 ?_
  intro t a0 S b e
  refine ⟨rfl, fun b_q e_q => ?_⟩
  rw [e] at e_q; cases e_q
  rfl
/-- who looks at a seat: bits of the first o -/
def lkb (g : Nat → Int32) (p : Nat) (who : Int32) : Nat → Int32
  | 0 => 0
  | o + 1 => if g (p + o) = who then lkb g p who o ||| (1 <<< (Int32.ofNat o &&& 31)) else lkb g p who o
def c53 (t : Nat) (a0 a1 : Int32) (S : ex_S) (v : Int32) (S_q : ex_S) : Prop := S_q = S ∧ ∀ b sn k, S.2.2.1 t 3 = some b → S.1 t 0 = Int32.ofNat sn → sn ≤ 6 → a1 = Int32.ofNat k → k ≤ 60 → v = lkb (S.1 b) (k * sn) a0 sn
theorem c53_ix {k sn o : Nat} (hk : k ≤ 60) (hs : sn ≤ 6) (ho : o ≤ 6) : ((Int32.ofNat k * Int32.ofNat sn) + Int32.ofNat o).toNatClampNeg = k * sn + o := by
  have := Nat.mul_le_mul hk hs
  rw [← Int32.ofNat_mul, n32_add, n32_tn (by omega)]
theorem ec53c : es53 c53 := by
  refine ev53 (I5 := fun t a0 a1 S x3 x4 T => T = S ∧ ∀ b sn k, S.2.2.1 t 3 = some b → S.1 t 0 = Int32.ofNat sn → sn ≤ 6 → a1 = Int32.ofNat k → k ≤ 60 → ∃ o, o ≤ sn ∧ x4 = Int32.ofNat o ∧ x3 = lkb (S.1 b) (k * sn) a0 o) ?_ ?_ ?_ ?_
  · intro t a0 a1 S
    exact ⟨rfl, fun b sn k e1 e2 l1 e3 l2 => ⟨0, Nat.zero_le _, rfl, rfl⟩⟩
  · intro t a0 a1 S x3 x4 T I c
    obtain ⟨eT, I⟩ := I
    subst eT
    refine ⟨rfl, fun b sn k e1 e2 l1 e3 l2 => ?_⟩
    obtain ⟨o, o1, o2, o3⟩ := I b sn k e1 e2 l1 e3 l2
    rw [e2, o2, n32_le (by omega) (by omega)] at c
    have : o = sn := by omega
    subst this
    exact o3
  · intro t a0 a1 S x3 x4 T I c b2 eb c2
    obtain ⟨eT, I⟩ := I
    subst eT
    refine ⟨rfl, fun b sn k e1 e2 l1 e3 l2 => ?_⟩
    obtain ⟨o, o1, o2, o3⟩ := I b sn k e1 e2 l1 e3 l2
    rw [e2, o2, n32_le (by omega) (by omega)] at c
    rw [e1] at eb; cases eb
    refine ⟨o + 1, by omega, by rw [o2]; exact n32_s o, ?_⟩
    rw [e3, e2, o2, c53_ix l2 l1 (by omega)] at c2
    unfold lkb
    rw [if_neg c2]; exact o3
  · intro t a0 a1 S x3 x4 T I c b2 eb c2
    obtain ⟨eT, I⟩ := I
    subst eT
    refine ⟨rfl, fun b sn k e1 e2 l1 e3 l2 => ?_⟩
    obtain ⟨o, o1, o2, o3⟩ := I b sn k e1 e2 l1 e3 l2
    rw [e2, o2, n32_le (by omega) (by omega)] at c
    rw [e1] at eb; cases eb
    refine ⟨o + 1, by omega, by rw [o2]; exact n32_s o, ?_⟩
    rw [e3, e2, o2, c53_ix l2 l1 (by omega)] at c2
    unfold lkb
    rw [if_pos (Classical.not_not.mp c2), o3, o2]
/-- the table of looks behind k deeds, as it is written: copied row by row -/
def gcp (g : Nat → Int32) (sn k j : Nat) : Int32 := if (k + 1) * sn ≤ j ∧ j < (k + 1) * sn + sn then g (k * sn + (j - (k + 1) * sn)) else g j
def graw (D : Nat → Int32) (sn : Nat) : Nat → Nat → Int32
  | 0, j => if j < sn then -1 else 0
  | k + 1, j => if D (4 * k) = 2 then gcp (graw D sn k) sn k j else if j = (Int32.ofNat ((k + 1) * sn) + D (4 * k + 1)).toNatClampNeg then D (4 * k + 2) else gcp (graw D sn k) sn k j
/-- what each deed's sign was seen by -/
def sraw (D : Nat → Int32) (sn : Nat) (k : Nat) : Int32 := if D (4 * k) = 2 then lkb (gcp (graw D sn k) sn k) (k * sn) (D (4 * k + 1)) sn else 0
def mMq (t : Nat) (S : ex_S) : Prop := t + 1 = S.2.2.2.2 ∧ 72 ≤ t ∧ S.2.2.2.1 26 = 200
def mMb (t : Nat) (S T : ex_S) : Prop := lowEq t S T ∧ T.2.2.2.2 = t + 4 ∧ (T.2.2.1 t 2 = some (t + 1) ∧ T.2.2.1 t 3 = some (t + 2) ∧ T.2.2.1 t 4 = some (t + 3)) ∧ T.1 t 0 = S.1 25 8 ∧ T.1 t 1 = S.1 25 4 ∧ ∀ dc, S.1 25 4 = Int32.ofNat dc → dc ≤ 50 → ∀ j, j < 4 * dc → T.1 (t + 1) j = S.1 26 j
theorem mMb.ch {t : Nat} {S T U : ex_S} (h : mMb t S T) (e2 : U.2 = T.2) (e1 : ∀ c k, c ≠ t + 2 → c ≠ t + 3 → U.1 c k = T.1 c k) : mMb t S U := by
  obtain ⟨a1, a2, a3, a4, a5, a6⟩ := h
  exact ⟨fun a ha => ⟨fun k => (e1 a k (by omega) (by omega)).trans ((a1 a ha).1 k), fun k => by rw [e2]; exact (a1 a ha).2.1 k, fun k => by rw [e2]; exact (a1 a ha).2.2.1 k, by rw [e2]; exact (a1 a ha).2.2.2⟩, by rw [e2]; exact a2, by rw [e2]; exact a3, (e1 _ _ (by omega) (by omega)).trans a4, (e1 _ _ (by omega) (by omega)).trans a5, fun dc e h j hj => (e1 _ _ (by omega) (by omega)).trans (a6 dc e h j hj)⟩
/-- k deeds are done -/
def mMk (t dc sn k : Nat) (S T : ex_S) : Prop := k ≤ dc ∧ (∀ j, T.1 (t + 2) j = graw (S.1 26) sn k j) ∧ ∀ j, T.1 (t + 3) j = if j < k then sraw (S.1 26) sn j else 0
def mMI (t : Nat) (S : ex_S) (x : Int32) (T : ex_S) : Prop := mMq t S → mMb t S T ∧ ∃ k, x = Int32.ofNat k ∧ ∀ dc sn, S.1 25 4 = Int32.ofNat dc → dc ≤ 50 → S.1 25 8 = Int32.ofNat sn → sn ≤ 6 → mMk t dc sn k S T
def mM (t : Nat) (S S_q : ex_S) : Prop := mMq t S → mMb t S S_q ∧ ∀ dc sn, S.1 25 4 = Int32.ofNat dc → dc ≤ 50 → S.1 25 8 = Int32.ofNat sn → sn ≤ 6 → mMk t dc sn dc S S_q
theorem n32_mul (a b : Nat) : Int32.ofNat a * Int32.ofNat b = Int32.ofNat (a * b) := (Int32.ofNat_mul a b).symm
theorem ec48c : es48 mM := by
  refine ev48 (I79 := mMI) ec45c ec49c ec51c ec52c ec53c ?_ ?_ ?_ ?_
  · intro t S r2 S3 h3 S7 h7 q
    obtain ⟨q1, q2, q3⟩ := q
    obtain ⟨c1, c2, c3, c4⟩ := h3
    rw [sx2, sx2] at c1 c2 c3 c4
    rw [← q1] at c1 c2 c3 c4
    rw [ex_sx_ne (by omega)] at c4
    have z0 : S3.1 t 0 = S.1 25 8 := ((c3 t (by omega)).1 0).trans ((ex_sx_ne (by omega)).trans ex_sx_eq)
    have z1 : S3.1 t 1 = S.1 25 4 := ((c3 t (by omega)).1 1).trans (ex_sx_eq.trans (ex_sx_ne (by omega)))
    have L3 : lowEq t S S3 := (((lowEq.refl t S).sx (Nat.le_refl _)).sx (Nat.le_refl _)).trans (c3.mono (by omega))
    have D3 : ∀ dc, S.1 25 4 = Int32.ofNat dc → dc ≤ 50 → ∀ j, j < 4 * dc → S3.1 (t + 1) j = S.1 26 j := fun dc e hd j hj => by
      refine (c4 (4 * dc) (by rw [e]; exact n32_m4 dc) ?_ ?_ (by omega) j hj).trans ((ex_sx_ne (by omega)).trans (ex_sx_ne (by omega)))
      · rw [q3]; omega
      · rw [q3]; omega
    -- the two tables
    generalize en1 : (((S3.1 t 1) + 1) * (S3.1 t 0)).toNatClampNeg = n1 at h7
    have m1 : (ex_new (ex_sz S3 t 2 r2) n1).1 t 1 = S3.1 t 1 := nw1 (by show ¬ t = S3.2.2.2.2; omega) _
    rw [m1] at h7
    generalize en2 : (S3.1 t 1).toNatClampNeg = n2 at h7
    have tp : (ex_new (ex_sz S3 t 2 r2) n1).2.2.2.2 = t + 3 := by show S3.2.2.2.2 + 1 = t + 3; omega
    have tp3 : S3.2.2.2.2 = t + 2 := by omega
    rw [tp, tp3] at h7
    have tq : (ex_sz (ex_new (ex_sz S3 t 2 r2) n1) t 3 (some (t + 2))).2.2.2.2 = t + 3 := tp
    have g3 : (ex_new (ex_sz (ex_new (ex_sz S3 t 2 r2) n1) t 3 (some (t + 2))) n2).2.2.1 t 3 = some (t + 2) := by
      rw [nw3 (by omega), sz_eq]
    have g0 : (ex_new (ex_sz (ex_new (ex_sz S3 t 2 r2) n1) t 3 (some (t + 2))) n2).1 t 0 = S.1 25 8 := by
      rw [nw1 (by omega)]
      show (ex_new (ex_sz S3 t 2 r2) n1).1 t 0 = _
      rw [nw1 (by show ¬ t = S3.2.2.2.2; omega)]; exact z0
    rw [g3, g0] at h7
    generalize eV : ex_sz (ex_new (ex_sz (ex_new (ex_sz S3 t 2 r2) n1) t 3 (some (t + 2))) n2) t 4 (some (t + 3)) = V at h7
    have LV : lowEq t S V := by
      subst eV
      exact ((((L3.sz (Nat.le_refl _)).new (by show t ≤ S3.2.2.2.2; omega)).sz (Nat.le_refl _)).new (by omega)).sz (Nat.le_refl _)
    have Vt : V.2.2.2.2 = t + 4 := by
      subst eV
      show (ex_sz (ex_new (ex_sz S3 t 2 r2) n1) t 3 (some (t + 2))).2.2.2.2 + 1 = t + 4
      omega
    have Vx : ∀ c k, c < t + 2 → V.1 c k = S3.1 c k := fun c k hc => by
      subst eV
      show (ex_new (ex_sz (ex_new (ex_sz S3 t 2 r2) n1) t 3 (some (t + 2))) n2).1 c k = _
      rw [nw1 (by omega)]
      exact nw1 (n := n1) (by show ¬ c = S3.2.2.2.2; omega) k
    have V2 : ∀ k, V.1 (t + 2) k = 0 := fun k => by
      subst eV
      show (ex_new (ex_sz (ex_new (ex_sz S3 t 2 r2) n1) t 3 (some (t + 2))) n2).1 (t + 2) k = _
      rw [nw1 (by omega)]
      exact nw1e (n := n1) (by show t + 2 = S3.2.2.2.2; omega) k
    have V3 : ∀ k, V.1 (t + 3) k = 0 := fun k => by
      subst eV
      exact nw1e (n := n2) (by omega) k
    have Vz : V.2.2.1 t 2 = some (t + 1) ∧ V.2.2.1 t 3 = some (t + 2) ∧ V.2.2.1 t 4 = some (t + 3) := by
      subst eV
      refine ⟨?_, ?_, sz_eq⟩
      · rw [sz_ne (by omega), nw3 (by omega), sz_ne (by omega), nw3 (by show ¬ t = S3.2.2.2.2; omega), sz_eq]; exact c1
      · rw [sz_ne (by omega)]; exact g3
    clear eV
    have B : mMb t S V := ⟨LV, Vt, Vz, (Vx t 0 (by omega)).trans z0, (Vx t 1 (by omega)).trans z1, fun dc e hd j hj => (Vx _ _ (by omega)).trans (D3 dc e hd j hj)⟩
    -- all look nowhere
    obtain ⟨f1, f3, f2⟩ := h7
    have B7 : mMb t S S7 := B.ch f1 (fun c k h1 h2 => f3 c k (fun z => h1 (Option.some.inj z).symm))
    by_cases hs : ∃ sn, S.1 25 8 = Int32.ofNat sn ∧ sn ≤ 6
    · obtain ⟨sn, es, ls⟩ := hs
      have f := f2 (t + 2) 0 sn rfl rfl es (Nat.zero_le _) (by omega)
      refine ⟨B7, 0, rfl, fun dc sn' ed ld es' ls_q => ⟨Nat.zero_le _, fun j => ?_, fun j => ?_⟩⟩
      · have : sn = sn' := (n32_eq (by omega) (by omega)).mp (es.symm.trans es')
        subst this
        rw [f]
        show _ = if j < sn then -1 else 0
        by_cases w : j < sn
        · rw [if_pos ⟨rfl, Nat.zero_le _, w⟩, if_pos w]
        · rw [if_neg (fun z => w z.2.2), if_neg w]; exact V2 j
      · rw [f, if_neg (by omega), if_neg (by omega)]; exact V3 j
    · exact ⟨B7, 0, rfl, fun dc sn _ _ es ls => absurd ⟨sn, es, ls⟩ hs⟩
  · intro t S x T I c q
    obtain ⟨m, k, k1, k2⟩ := I q
    refine ⟨m, fun dc sn ed ld es ls => ?_⟩
    have K := k2 dc sn ed ld es ls
    rw [m.2.2.2.2.1, ed, k1, n32_le (by omega) (by have := K.1; omega)] at c
    have : k = dc := by have := K.1; omega
    subst this
    exact K
  · intro t S x T I c b10 e10 r13 S14 h14 c13 r18 S19 h19 b21 e21 b23 e23 q
    obtain ⟨m, k, k1, k2⟩ := I q
    rw [m.2.2.1.2.1] at e10; cases e10
    generalize eA : ex_cp T (t + 2) ((x * (T.1 t 0)).toNatClampNeg) (t + 2) (((x + 1) * (T.1 t 0)).toNatClampNeg) ((T.1 t 0).toNatClampNeg) = A at h14
    have A2 : A.2 = T.2 := by subst eA; rfl
    have A1 : ∀ c j, c ≠ t + 2 → A.1 c j = T.1 c j := fun c j hc => by
      subst eA
      rw [ex_cp_at, if_neg (fun z => hc z.1)]
    have G : ∀ dc sn, S.1 25 4 = Int32.ofNat dc → dc ≤ 50 → S.1 25 8 = Int32.ofNat sn → sn ≤ 6 → k ≤ dc → (k + 1) * sn ≤ 306 ∧ k * sn ≤ 306 ∧ ((∀ j, T.1 (t + 2) j = graw (S.1 26) sn k j) → ∀ j, A.1 (t + 2) j = gcp (graw (S.1 26) sn k) sn k j) := fun dc sn ed ld es ls kd => by
      have p1 : (k + 1) * sn ≤ 51 * 6 := Nat.mul_le_mul (by omega) ls
      have p2 : k * sn ≤ 51 * 6 := Nat.mul_le_mul (by omega) ls
      refine ⟨p1, p2, fun hg j => ?_⟩
      have t0 : T.1 t 0 = Int32.ofNat sn := m.2.2.2.1.trans es
      have i1 : (x * T.1 t 0).toNatClampNeg = k * sn := by rw [k1, t0, n32_mul, n32_tn (by omega)]
      have i2 : ((x + 1) * T.1 t 0).toNatClampNeg = (k + 1) * sn := by rw [k1, t0, n32_s, n32_mul, n32_tn (by omega)]
      have i3 : (T.1 t 0).toNatClampNeg = sn := by rw [t0, n32_tn (by omega)]
      subst eA
      rw [ex_cp_at, i1, i2, i3, hg, hg]
      unfold gcp
      by_cases w : (k + 1) * sn ≤ j ∧ j < (k + 1) * sn + sn
      · rw [if_pos ⟨rfl, w⟩, if_pos w]
      · rw [if_neg (fun z => w z.2), if_neg w]
    clear eA
    have x4 : k ≤ 50 → (x * 4).toNatClampNeg = 4 * k ∧ ((x * 4) + 1).toNatClampNeg = 4 * k + 1 ∧ ((x * 4) + 2).toNatClampNeg = 4 * k + 2 := fun hk => by
      refine ⟨?_, ?_, ?_⟩
      · rw [k1, n32_m4, n32_tn (by omega)]
      · rw [k1, n32_m4, n32_s, n32_tn (by omega)]
      · rw [k1, n32_m4, show (2 : Int32) = Int32.ofNat 2 from rfl, n32_add, n32_tn (by omega)]
    have Z2 : A.2.2.1 t 2 = some (t + 1) := by rw [A2]; exact m.2.2.1.1
    have Z3 : A.2.2.1 t 3 = some (t + 2) := by rw [A2]; exact m.2.2.1.2.1
    have Z4 : A.2.2.1 t 4 = some (t + 3) := by rw [A2]; exact m.2.2.1.2.2
    have D : ∀ dc, S.1 25 4 = Int32.ofNat dc → dc ≤ 50 → ∀ j, j < 4 * dc → A.1 (t + 1) j = S.1 26 j := fun dc ed ld j hj => (A1 _ _ (by omega)).trans (m.2.2.2.2.2 dc ed ld j hj)
    have A0 : A.1 t 0 = S.1 25 8 := (A1 _ _ (by omega)).trans m.2.2.2.1
    obtain ⟨w14, v14⟩ := h14
    subst w14
    have v14 := v14 _ Z2
    obtain ⟨w19, v19⟩ := h19
    subst w19
    have v19 := v19 _ Z2
    rw [Z2] at e21; cases e21
    rw [Z3] at e23; cases e23
    refine ⟨m.ch A2 (fun c j h1 h2 => (ex_sx_ne (fun z => h1 z.1)).trans (A1 c j h1)), k + 1, by rw [k1]; exact n32_s k, fun dc sn ed ld es ls => ?_⟩
    have K := k2 dc sn ed ld es ls
    rw [m.2.2.2.2.1, ed, k1, n32_le (by omega) (by have := K.1; omega)] at c
    have kd : k < dc := by omega
    obtain ⟨p1, p2, G⟩ := G dc sn ed ld es ls K.1
    have G := G K.2.1
    obtain ⟨y0, y1, y2⟩ := x4 (by omega)
    have no : ¬ S.1 26 (4 * k) = 2 := fun z => by
      rw [y0, D dc ed ld _ (by omega), if_pos z] at v14
      rw [v14] at c13
      exact absurd c13 (by decide)
    rw [y1, D dc ed ld _ (by omega)] at v19
    refine ⟨kd, fun j => ?_, fun j => ?_⟩
    · rw [y2, D dc ed ld _ (by omega), A0, es, k1, n32_s, n32_mul, v19, ex_sx_at, G]
      show _ = if S.1 26 (4 * k) = 2 then _ else _
      rw [if_neg no]
      by_cases w : j = (Int32.ofNat ((k + 1) * sn) + S.1 26 (4 * k + 1)).toNatClampNeg
      · rw [if_pos ⟨rfl, w⟩, if_pos w]
      · rw [if_neg (fun z => w z.2), if_neg w]
    · rw [ex_sx_ne (by omega), A1 _ _ (by omega), K.2.2]
      by_cases w : j < k
      · rw [if_pos w, if_pos (by omega)]
      · rw [if_neg w]
        by_cases w2 : j < k + 1
        · have : j = k := by omega
          subst this
          rw [if_pos w2]
          unfold sraw
          rw [if_neg no]
        · rw [if_neg w2]
  · intro t S x T I c b10 e10 r13 S14 h14 c13 r26 S27 h27 r30 S31 h31 b33 e33 q
    obtain ⟨m, k, k1, k2⟩ := I q
    rw [m.2.2.1.2.1] at e10; cases e10
    generalize eA : ex_cp T (t + 2) ((x * (T.1 t 0)).toNatClampNeg) (t + 2) (((x + 1) * (T.1 t 0)).toNatClampNeg) ((T.1 t 0).toNatClampNeg) = A at h14
    have A2 : A.2 = T.2 := by subst eA; rfl
    have A1 : ∀ c j, c ≠ t + 2 → A.1 c j = T.1 c j := fun c j hc => by
      subst eA
      rw [ex_cp_at, if_neg (fun z => hc z.1)]
    have G : ∀ dc sn, S.1 25 4 = Int32.ofNat dc → dc ≤ 50 → S.1 25 8 = Int32.ofNat sn → sn ≤ 6 → k ≤ dc → (k + 1) * sn ≤ 306 ∧ k * sn ≤ 306 ∧ ((∀ j, T.1 (t + 2) j = graw (S.1 26) sn k j) → ∀ j, A.1 (t + 2) j = gcp (graw (S.1 26) sn k) sn k j) := fun dc sn ed ld es ls kd => by
      have p1 : (k + 1) * sn ≤ 51 * 6 := Nat.mul_le_mul (by omega) ls
      have p2 : k * sn ≤ 51 * 6 := Nat.mul_le_mul (by omega) ls
      refine ⟨p1, p2, fun hg j => ?_⟩
      have t0 : T.1 t 0 = Int32.ofNat sn := m.2.2.2.1.trans es
      have i1 : (x * T.1 t 0).toNatClampNeg = k * sn := by rw [k1, t0, n32_mul, n32_tn (by omega)]
      have i2 : ((x + 1) * T.1 t 0).toNatClampNeg = (k + 1) * sn := by rw [k1, t0, n32_s, n32_mul, n32_tn (by omega)]
      have i3 : (T.1 t 0).toNatClampNeg = sn := by rw [t0, n32_tn (by omega)]
      subst eA
      rw [ex_cp_at, i1, i2, i3, hg, hg]
      unfold gcp
      by_cases w : (k + 1) * sn ≤ j ∧ j < (k + 1) * sn + sn
      · rw [if_pos ⟨rfl, w⟩, if_pos w]
      · rw [if_neg (fun z => w z.2), if_neg w]
    clear eA
    have x4 : k ≤ 50 → (x * 4).toNatClampNeg = 4 * k ∧ ((x * 4) + 1).toNatClampNeg = 4 * k + 1 ∧ ((x * 4) + 2).toNatClampNeg = 4 * k + 2 := fun hk => by
      refine ⟨?_, ?_, ?_⟩
      · rw [k1, n32_m4, n32_tn (by omega)]
      · rw [k1, n32_m4, n32_s, n32_tn (by omega)]
      · rw [k1, n32_m4, show (2 : Int32) = Int32.ofNat 2 from rfl, n32_add, n32_tn (by omega)]
    have Z2 : A.2.2.1 t 2 = some (t + 1) := by rw [A2]; exact m.2.2.1.1
    have Z3 : A.2.2.1 t 3 = some (t + 2) := by rw [A2]; exact m.2.2.1.2.1
    have Z4 : A.2.2.1 t 4 = some (t + 3) := by rw [A2]; exact m.2.2.1.2.2
    have D : ∀ dc, S.1 25 4 = Int32.ofNat dc → dc ≤ 50 → ∀ j, j < 4 * dc → A.1 (t + 1) j = S.1 26 j := fun dc ed ld j hj => (A1 _ _ (by omega)).trans (m.2.2.2.2.2 dc ed ld j hj)
    have A0 : A.1 t 0 = S.1 25 8 := (A1 _ _ (by omega)).trans m.2.2.2.1
    obtain ⟨w14, v14⟩ := h14
    subst w14
    have v14 := v14 _ Z2
    obtain ⟨w27, v27⟩ := h27
    subst w27
    have v27 := v27 _ Z2
    obtain ⟨w31, v31⟩ := h31
    subst w31
    rw [Z4] at e33; cases e33
    refine ⟨m.ch A2 (fun c j h1 h2 => (ex_sx_ne (fun z => h2 z.1)).trans (A1 c j h1)), k + 1, by rw [k1]; exact n32_s k, fun dc sn ed ld es ls => ?_⟩
    have K := k2 dc sn ed ld es ls
    rw [m.2.2.2.2.1, ed, k1, n32_le (by omega) (by have := K.1; omega)] at c
    have kd : k < dc := by omega
    obtain ⟨p1, p2, G⟩ := G dc sn ed ld es ls K.1
    have G := G K.2.1
    obtain ⟨y0, y1, y2⟩ := x4 (by omega)
    have yes : S.1 26 (4 * k) = 2 := Classical.byContradiction (fun z => by
      rw [y0, D dc ed ld _ (by omega), if_neg z] at v14
      exact c13 v14)
    rw [y1, D dc ed ld _ (by omega)] at v27
    have v31 := v31 _ sn k Z3 (A0.trans es) ls k1 (by omega)
    refine ⟨kd, fun j => ?_, fun j => ?_⟩
    · rw [ex_sx_ne (by omega), G]
      show _ = if S.1 26 (4 * k) = 2 then _ else _
      rw [if_pos yes]
    · rw [k1, n32_tn (by omega), ex_sx_at, A1 _ _ (by omega), K.2.2]
      by_cases w : j = k
      · subst w
        rw [if_pos ⟨rfl, rfl⟩, if_pos (by omega), v31, v27]
        unfold sraw
        rw [if_pos yes]
        exact congrArg (fun f => lkb f (j * sn) (S.1 26 (4 * j + 1)) sn) (funext G)
      · rw [if_neg (fun z => w z.2)]
        by_cases w2 : j < k
        · rw [if_pos w2, if_pos (by omega)]
        · rw [if_neg w2, if_neg (by omega)]
end
section
/-! WHAT A TEXT LEAVES in the class -/
def cxi (s : Int32) : Nat := if s = 0 then 19 else if s = 1 then 20 else if s = 2 then 21 else 22
def cc43d (s n : Int32) (S S_q : ex_S) : Prop := 72 ≤ S.2.2.2.2 ∧ ∃ S7, (s = 0 → mL S.2.2.2.2 (ex_new S 0) S7) ∧ (s = 1 → mR S.2.2.2.2 (ex_new S 0) S7) ∧ (s = 2 → mM S.2.2.2.2 (ex_new S 0) S7) ∧ (¬ s = 0 → ¬ s = 1 → ¬ s = 2 → mH S.2.2.2.2 (ex_new S 0) S7) ∧ S_q = ex_sz S7 (cxi s) n.toNatClampNeg (some S.2.2.2.2)
theorem ec43d : es43 cc43d := by
  refine ev43 ec44c ec47c ec48c ec54c ?_ ?_ ?_ ?_
  · intro s n S e h72 S7 h
    refine ⟨h72, S7, fun _ => h, fun z => absurd (e.symm.trans z) (by decide), fun z => absurd (e.symm.trans z) (by decide), fun z => absurd e z, ?_⟩
    unfold cxi; rw [if_pos e]
  · intro s n S e0 e h72 S7 h
    refine ⟨h72, S7, fun z => absurd z e0, fun _ => h, fun z => absurd (e.symm.trans z) (by decide), fun _ z => absurd e z, ?_⟩
    unfold cxi; rw [if_neg e0, if_pos e]
  · intro s n S e0 e1 e h72 S7 h
    refine ⟨h72, S7, fun z => absurd z e0, fun z => absurd z e1, fun _ => h, fun _ _ z => absurd e z, ?_⟩
    unfold cxi; rw [if_neg e0, if_neg e1, if_pos e]
  · intro s n S e0 e1 e2 h72 S7 h
    refine ⟨h72, S7, fun z => absurd z e0, fun z => absurd z e1, fun z => absurd z e2, fun _ _ _ => h, ?_⟩
    unfold cxi; rw [if_neg e0, if_neg e1, if_neg e2]
/-- the tables of a LIST at b are what its rows say -/
def wfL (S : ex_S) (b tc : Nat) : Prop := (∀ j, S.2.1 (b + 1) j = vtab (S.1 (b + 4)) tc j) ∧ (∀ g s, g < 10 → s < 10 → S.1 (b + 2) (10 * g + s) = wtab (S.1 (b + 5)) g s) ∧ S.1 b 7 = wrest (S.1 (b + 5)) 9
def wfM (S : ex_S) (b dc sn : Nat) : Prop := (∀ j, S.1 (b + 2) j = graw (S.1 (b + 1)) sn dc j) ∧ ∀ j, j < dc → S.1 (b + 3) j = sraw (S.1 (b + 1)) sn j
/-- what a text tells lies at t -/
def conL (S : ex_S) (t : Nat) (A : pA) : Prop := (S.2.2.1 t 5 = some (t + 1) ∧ S.2.2.1 t 6 = some (t + 2) ∧ S.2.2.1 t 1 = some (t + 3) ∧ S.2.2.1 t 3 = some (t + 4) ∧ S.2.2.1 t 4 = some (t + 5)) ∧ S.1 t 0 = Int32.ofNat (pic A) ∧ S.1 t 2 = Int32.ofNat (prc A) ∧ (∀ k j, k < pic A → j < 4 → S.1 (t + 3) (4 * k + j) = pit A k j) ∧ (∀ k j, k < prc A → j < 4 → S.1 (t + 4) (4 * k + j) = prd A k j) ∧ (∀ k, k < 10 → S.1 (t + 5) k = pnr A k) ∧ wfL S t (prc A)
def conR (S : ex_S) (t : Nat) (A : pA) : Prop := S.2.2.1 t 1 = some (t + 1) ∧ S.1 t 0 = Int32.ofNat (pic A) ∧ ∀ k, k < pic A → S.1 (t + 1) k = pit A k 0
def conM (S : ex_S) (t : Nat) (A : pA) : Prop := (S.2.2.1 t 2 = some (t + 1) ∧ S.2.2.1 t 3 = some (t + 2) ∧ S.2.2.1 t 4 = some (t + 3)) ∧ S.1 t 0 = pst A ∧ S.1 t 1 = Int32.ofNat (pic A) ∧ (∀ k j, k < pic A → j < 4 → S.1 (t + 1) (4 * k + j) = pit A k j) ∧ ∀ sn, pst A = Int32.ofNat sn → sn ≤ 6 → wfM S t (pic A) sn
def conH (S : ex_S) (t : Nat) (A : pA) : Prop := S.2.2.1 t 1 = some (t + 1) ∧ S.1 t 0 = Int32.ofNat (pic A) ∧ ∀ k j, k < pic A → j < 4 → S.1 (t + 1) (4 * k + j) = pit A k j
def con (s : Int32) (S : ex_S) (t : Nat) (A : pA) : Prop := (s = 0 → conL S t A) ∧ (s = 1 → conR S t A) ∧ (s = 2 → conM S t A) ∧ (¬ s = 0 → ¬ s = 1 → ¬ s = 2 → conH S t A)
theorem con.keep {s : Int32} {S S_q : ex_S} {t : Nat} {A : pA} (h : con s S t A) (e1 : ∀ c, t ≤ c → S_q.1 c = S.1 c) (e2 : ∀ c, t ≤ c → S_q.2.1 c = S.2.1 c) (e3 : ∀ c, t ≤ c → S_q.2.2.1 c = S.2.2.1 c) : con s S_q t A := by
  have g0 := e1 t (Nat.le_refl _)
  have g1 := e1 (t + 1) (by omega)
  have g2 := e1 (t + 2) (by omega)
  have g3 := e1 (t + 3) (by omega)
  have g4 := e1 (t + 4) (by omega)
  have g5 := e1 (t + 5) (by omega)
  have y1 := e2 (t + 1) (by omega)
  have z0 := e3 t (Nat.le_refl _)
  obtain ⟨h0, h1, h2, h3⟩ := h
  refine ⟨fun e => ?_, fun e => ?_, fun e => ?_, fun a b c => ?_⟩
  · have w := h0 e
    unfold conL wfL at w ⊢
    rw [g0, g2, g3, g4, g5, y1, z0]; exact w
  · have w := h1 e
    unfold conR at w ⊢
    rw [g0, g1, z0]; exact w
  · have w := h2 e
    unfold conM wfM at w ⊢
    rw [g0, g1, g2, g3, z0]; exact w
  · have w := h3 a b c
    unfold conH at w ⊢
    rw [g0, g1, z0]; exact w
theorem vtab_cg {r r_q : Nat → Int32} (i : Nat) (h : ∀ j, j < 4 * i → r j = r_q j) (j : Nat) : vtab r i j = vtab r_q i j := by
  induction i with
  | zero => rfl
  | succ i ih =>
    unfold vtab
    rw [h (4 * i) (by omega), h (4 * i + 1) (by omega), h (4 * i + 2) (by omega), ih (fun j hj => h j (by omega))]
theorem gcp_cg {g g_q : Nat → Int32} (h : ∀ j, g j = g_q j) (sn k j : Nat) : gcp g sn k j = gcp g_q sn k j := by
  unfold gcp
  rw [h, h]
theorem graw_cg {D D' : Nat → Int32} {sn : Nat} (k : Nat) (h : ∀ j, j < 4 * k → D j = D' j) (j : Nat) : graw D sn k j = graw D' sn k j := by
  induction k generalizing j with
  | zero => rfl
  | succ k ih =>
    unfold graw
    rw [h (4 * k) (by omega), h (4 * k + 1) (by omega), h (4 * k + 2) (by omega), gcp_cg (fun j => ih (fun j hj => h j (by omega)) j)]
theorem sraw_cg {D D' : Nat → Int32} {sn k : Nat} (h : ∀ j, j < 4 * (k + 1) → D j = D' j) : sraw D sn k = sraw D' sn k := by
  unfold sraw
  rw [h (4 * k) (by omega), h (4 * k + 1) (by omega), show gcp (graw D sn k) sn k = gcp (graw D' sn k) sn k from funext (gcp_cg (fun j => graw_cg k (fun j hj => h j (by omega)) j) sn k)]
/-- pit by a place in the array -/
theorem ofps {R : Nat → Int32} {f : Nat → Nat → Int32} {n : Nat} (h : ∀ k j, k < n → j < 4 → R (4 * k + j) = f k j) : ∀ {T : Nat → Int32}, (∀ j, j < 4 * n → T j = R j) → ∀ k j, k < n → j < 4 → T (4 * k + j) = f k j := fun e k j hk hj => (e _ (by omega)).trans (h k j hk hj)
/-- what keepText has made, where the reader holds A -/
theorem con_of {s n : Int32} {S S_q : ex_S} {A : pA} (h : cc43d s n S S_q) (l26 : S.2.2.2.1 26 = 200) (l27 : S.2.2.2.1 27 = 64) (hf : pf A = 0) (hr : if s = 1 then rr S A else ra S A) : (∀ c k, 19 ≤ c → c ≤ 22 → S_q.2.2.1 c k = if c = cxi s ∧ k = n.toNatClampNeg then some S.2.2.2.2 else S.2.2.1 c k) ∧ con s S_q S.2.2.2.2 A := by
  obtain ⟨h72, S7, m0, m1, m2, m3, e⟩ := h
  generalize et : S.2.2.2.2 = t at h72 m0 m1 m2 m3 e
  have nt : t + 1 = (ex_new S 0).2.2.2.2 := by rw [← et]; rfl
  have nx : ∀ c k, c < t → (ex_new S 0).1 c k = S.1 c k := fun c k hc => nw1 (by omega) k
  have nz : ∀ c k, c < t → (ex_new S 0).2.2.1 c k = S.2.2.1 c k := fun c k hc => nw3 (by omega) k
  have nl : ∀ c, c < t → (ex_new S 0).2.2.2.1 c = S.2.2.2.1 c := fun c hc => nw4 (by omega)
  have n26 : (ex_new S 0).2.2.2.1 26 = 200 := (nl 26 (by omega)).trans l26
  have n27 : (ex_new S 0).2.2.2.1 27 = 64 := (nl 27 (by omega)).trans l27
  have ci : 19 ≤ cxi s ∧ cxi s ≤ 22 := by
    unfold cxi
    split
    · omega
    · split
      · omega
      · split <;> omega
  have refs : lowEq t (ex_new S 0) S7 → ∀ c k, 19 ≤ c → c ≤ 22 → S_q.2.2.1 c k = if c = cxi s ∧ k = n.toNatClampNeg then some t else S.2.2.1 c k := fun L c k h1 h2 => by
    rw [e, sz_at, (L c (by omega)).2.2.1 k, nz c k (by omega)]
  have tr : con s S7 t A → con s S_q t A := fun c => c.keep (fun b hb => by rw [e]; rfl) (fun b hb => by rw [e]; rfl) (fun b hb => by
    funext k
    rw [e, sz_ne (by omega)])
  by_cases s0 : s = 0
  · obtain ⟨⟨b1, b2, b3, b4, b5, b6, b7, b8⟩, v, w, r⟩ := m0 s0 ⟨nt, h72, n26, n27⟩
    rw [if_neg (by rw [s0]; decide)] at hr
    obtain ⟨c1, c2, c3, c4, c5, c6, c7, c8, c9⟩ := hr.2.2 hf
    have x4 : (ex_new S 0).1 25 4 = Int32.ofNat (pic A) := (nx _ _ (by omega)).trans c1
    have x6 : (ex_new S 0).1 25 6 = Int32.ofNat (prc A) := (nx _ _ (by omega)).trans c3
    have e28 : S7.1 (t + 5) = (ex_new S 0).1 28 := funext b8
    refine ⟨refs b1, tr ⟨fun _ => ⟨b3, b4.trans x4, b5.trans x6, ofps c7 (fun j hj => (b6 _ x4 c2 j hj).trans (nx _ _ (by omega))), ofps c8 (fun j hj => (b7 _ x6 c4 j hj).trans (nx _ _ (by omega))), fun k hk => (b8 k).trans ((nx _ _ (by omega)).trans (c9 k hk)), fun j => ?_, fun g q hg hq => by rw [e28]; exact w g q hg hq, by rw [e28]; exact r⟩, fun z => absurd (s0.symm.trans z) (by decide), fun z => absurd (s0.symm.trans z) (by decide), fun z => absurd s0 z⟩⟩
    rw [v _ x6 c4 j]
    exact (vtab_cg _ (fun i hi => b7 _ x6 c4 i hi) j).symm
  by_cases s1 : s = 1
  · obtain ⟨b1, b2, b3, b4, b5⟩ := m1 s1 nt h72 n26
    rw [if_pos s1] at hr
    obtain ⟨c1, c2, c3⟩ := hr.2.2 hf
    have x4 : (ex_new S 0).1 25 4 = Int32.ofNat (pic A) := (nx _ _ (by omega)).trans c1
    exact ⟨refs b1, tr ⟨fun z => absurd z s0, fun _ => ⟨b3, b4.trans x4, fun k hk => (b5 _ x4 c2 k hk).trans ((nx _ _ (by omega)).trans (c3 k hk))⟩, fun z => absurd (s1.symm.trans z) (by decide), fun _ z => absurd s1 z⟩⟩
  rw [if_neg s1] at hr
  obtain ⟨c1, c2, c3, c4, c5, c6, c7, c8, c9⟩ := hr.2.2 hf
  have x4 : (ex_new S 0).1 25 4 = Int32.ofNat (pic A) := (nx _ _ (by omega)).trans c1
  by_cases s2 : s = 2
  · obtain ⟨⟨b1, b2, b3, b4, b5, b6⟩, w⟩ := m2 s2 ⟨nt, h72, n26⟩
    have x8 : (ex_new S 0).1 25 8 = pst A := (nx _ _ (by omega)).trans c5
    have d := b6 _ x4 c2
    refine ⟨refs b1, tr ⟨fun z => absurd z s0, fun z => absurd z s1, fun _ => ⟨b3, b4.trans x8, b5.trans x4, ofps c7 (fun j hj => (d j hj).trans (nx _ _ (by omega))), fun sn es ls => ?_⟩, fun _ _ z => absurd s2 z⟩⟩
    obtain ⟨w1, w2, w3⟩ := w _ sn x4 c2 (x8.trans es) ls
    refine ⟨fun j => (w2 j).trans (graw_cg _ d j).symm, fun j hj => ?_⟩
    rw [w3, if_pos hj]
    exact (sraw_cg (fun i hi => d i (by omega))).symm
  · obtain ⟨b1, b2, b3, b4, b5⟩ := m3 s0 s1 s2 nt h72 n26
    exact ⟨refs b1, tr ⟨fun z => absurd z s0, fun z => absurd z s1, fun z => absurd z s2, fun _ _ _ => ⟨b3, b4.trans x4, ofps c7 (fun j hj => (b5 _ x4 c2 j hj).trans (nx _ _ (by omega)))⟩⟩⟩
/-- text, and what it leaves -/
def cq10 (S : ex_S) : Prop := S.2.2.2.1 26 = 200 ∧ S.2.2.2.1 27 = 64
def cxDA (s at_ : Int32) (A : pA) (S : ex_S) (v : Int32) (S_q : ex_S) : Prop := (¬ (txok s at_ (S.1 23 s.toNatClampNeg) (ex_st 1 s.toNatClampNeg) ∧ pf A = 0) → ∀ c k, 19 ≤ c → c ≤ 22 → S_q.2.2.1 c k = S.2.2.1 c k) ∧ (txok s at_ (S.1 23 s.toNatClampNeg) (ex_st 1 s.toNatClampNeg) → pf A = 0 → 72 ≤ S.2.2.2.2 ∧ (∀ c k, 19 ≤ c → c ≤ 22 → S_q.2.2.1 c k = if c = cxi s ∧ k = v.toNatClampNeg then some S.2.2.2.2 else S.2.2.1 c k) ∧ con s S_q S.2.2.2.2 A)
def cxD (s at_ : Int32) (S : ex_S) (v : Int32) (S_q : ex_S) : Prop := ∀ n, S.1 17 1 = Int32.ofNat n → cq11 S n → cq10 S → cxDA s at_ (ps_text s (S.1 18) n) S v S_q
theorem cd_no {s at_ : Int32} {S : ex_S} (h : ¬ txok s at_ (S.1 23 s.toNatClampNeg) (ex_st 1 s.toNatClampNeg)) : cxD s at_ S (-2) (cx0 S) :=
  fun n _ _ _ => ⟨fun _ c k _ _ => by rw [(cx0_fx S).2], fun z => absurd z h⟩
theorem cd_rd {s : Int32} {S S8 : ex_S} (h : cc11 (S.1 17 1) s (cx0 S) S8) : S8.2 = S.2 ∧ ∀ n, S.1 17 1 = Int32.ofNat n → cq11 S n → if s = 1 then rr S8 (ps_text s (S.1 18) n) else ra S8 (ps_text s (S.1 18) n) := by
  refine ⟨h.1.2.trans (cx0_fx S).2, fun n e q => ?_⟩
  have e18 : (cx0 S).1 18 = S.1 18 := by funext j; exact (cx0_fx S).1 18 j (by omega)
  have r := h.2 n e (cx_q q)
  rw [e18] at r
  exact r
theorem cd_pf {s : Int32} {S8 : ex_S} {A : pA} (h : if s = 1 then rr S8 A else ra S8 A) : S8.1 25 1 = pf A := by
  split at h
  · exact h.1
  · exact h.1
theorem cd_bad {s at_ : Int32} {S S8 : ex_S} (h : cc11 (S.1 17 1) s (cx0 S) S8) (c : ¬ (S8.1 25 1 = 0)) : cxD s at_ S (-1) (ex_sx (ex_sx S8 17 2 (S8.1 25 1)) 17 3 (S8.1 25 2)) := by
  obtain ⟨F, r⟩ := cd_rd h
  intro n e q q2
  have e1 := cd_pf (r n e q)
  refine ⟨fun _ c k _ _ => ?_, fun _ z => absurd (e1.trans z) c⟩
  rw [sx2, sx2, F]
theorem ra_sx {s : Int32} {S : ex_S} {A : pA} {k : Nat} {v : Int32} (h : if s = 1 then rr S A else ra S A) : if s = 1 then rr (ex_sx S 17 k v) A else ra (ex_sx S 17 k v) A := by
  split
  · rename_i e
    rw [if_pos e] at h
    exact h.keep (fun j => ex_sx_ne (by omega)) (fun j => ex_sx_ne (by omega))
  · rename_i e
    rw [if_neg e] at h
    exact h.keep (fun j => ex_sx_ne (by omega)) (fun j => ex_sx_ne (by omega)) (fun j => ex_sx_ne (by omega)) (fun j => ex_sx_ne (by omega))
theorem cd_good {s at_ v : Int32} {S S8 S13 S_q : ex_S} (ok : txok s at_ (S.1 23 s.toNatClampNeg) (ex_st 1 s.toNatClampNeg)) (h : cc11 (S.1 17 1) s (cx0 S) S8) (c : S8.1 25 1 = 0) (h13 : cc43d s v (ex_sx (ex_sx S8 17 2 (S8.1 25 1)) 17 3 (S8.1 25 2)) S13) (e1 : ∀ c, 72 ≤ c → S_q.1 c = S13.1 c) (e2 : S_q.2 = S13.2) : cxD s at_ S v S_q := by
  obtain ⟨F, r⟩ := cd_rd h
  intro n e q q2
  have R := r n e q
  have ez := cd_pf R
  have hf : pf (ps_text s (S.1 18) n) = 0 := ez.symm.trans c
  refine ⟨fun z => absurd ⟨ok, hf⟩ z, fun _ _ => ?_⟩
  have t72 : 72 ≤ S.2.2.2.2 := by
    have := h13.1
    rw [sx2, sx2, F] at this
    exact this
  obtain ⟨g1, g2⟩ := con_of h13 (by rw [sx2, sx2, F]; exact q2.1) (by rw [sx2, sx2, F]; exact q2.2) hf (ra_sx (ra_sx R))
  rw [sx2, sx2, F] at g1 g2
  refine ⟨t72, fun c k h1 h2 => by rw [e2]; exact g1 c k h1 h2, g2.keep (fun b hb => e1 b (by omega)) (fun b _ => by rw [e2]) (fun b _ => by rw [e2])⟩
theorem ec10d : es10 cxD := by
  refine ev10 ec11 ec43d ?_ ?_ ?_ ?_ ?_ ?_ ?_ ?_ ?_
  · intro s a S c
    exact cd_no (fun z => Int32.not_le.mpr c z.1)
  · intro s a S c c2 c3 c4
    exact cd_no (fun z => Int32.not_le.mpr c4 (z.2.2.2 c3).1)
  · intro s a S c c2 c3 c4 c5 S8 h8 c6 S13 h13
    exact cd_good ⟨Int32.not_lt.mp c, lt4_le3.mp c2, fun z => absurd z c3, fun _ => ⟨Int32.not_lt.mp c4, c5⟩⟩ h8 c6 h13 (fun _ _ => rfl) rfl
  · intro s a S c c2 c3 c4 c5 S8 h8 c6
    exact cd_bad h8 c6
  · intro s a S c c2 c3 c4 c5
    exact cd_no (fun z => c5 (z.2.2.2 c3).2)
  · intro s a S c c2 c3 c4 S8 h8 c6 S13 h13
    have c3 := Classical.not_not.mp c3
    exact cd_good ⟨Int32.not_lt.mp c, lt4_le3.mp c2, fun _ => c4, fun z => absurd c3 z⟩ h8 c6 h13 (fun b hb => funext (fun k => ex_sx_ne (fun z => by omega))) rfl
  · intro s a S c c2 c3 c4 S8 h8 c6
    exact cd_bad h8 c6
  · intro s a S c c2 c3 c4
    have c3 := Classical.not_not.mp c3
    exact cd_no (fun z => c4 (z.2.2.1 c3))
  · intro s a S c c2
    exact cd_no (fun z => c2 (lt4_le3.mpr z.2.1))
end
section
/-! WHAT A TEXT LEAVES in the reference -/
def rwdt (s : Int32) : Nat := if s = 0 then 100 else if s = 1 then 13 else if s = 2 then 152 else 25
def rxDA (s at_ : Int32) (A : pA) (S : ex_S) (v : Int32) (S_q : ex_S) : Prop := (¬ (txok s at_ (S.1 46 s.toNatClampNeg) (vf176 s) ∧ pf A = 0) → ∀ c k, 47 ≤ c → c ≤ 50 → S_q.1 c k = S.1 c k) ∧ (txok s at_ (S.1 46 s.toNatClampNeg) (vf176 s) → pf A = 0 → ∃ U : ex_S, rqT s U A ∧ v.toNatClampNeg ≤ 3 ∧ ∀ c k, 47 ≤ c → c ≤ 50 → S_q.1 c k = if c = 28 + cxi s then sti (S.1 c) (U.1 51) (rwdt s) v.toNatClampNeg (rwdt s) k else S.1 c k)
def rxD (s at_ : Int32) (S : ex_S) (v : Int32) (S_q : ex_S) : Prop := ∀ n, rxq S n → rxDA s at_ (ps_text s (S.1 42) n) S v S_q
theorem n32_nm {w : Nat} (hw : w < 2147483648) : ¬ Int32.ofNat w = -1 := fun y => by
  have := congrArg Int32.toInt y
  rw [n32_i hw] at this
  have e1 : (-1 : Int32).toInt = -1 := rfl
  omega
theorem rd_no {s at_ : Int32} {S : ex_S} (h : ∀ n, rxq S n → ¬ txok s at_ (S.1 46 s.toNatClampNeg) (vf176 s)) : rxD s at_ S (-2) (rx0 S) :=
  fun n q => ⟨fun _ c k _ _ => (rx0_fx S).1 c k (by omega), fun z => absurd z (h n q)⟩
theorem rd_rd {s r : Int32} {S S9 : ex_S} (h : rc178 s (rx0 S) r S9) : (∀ c k, 46 ≤ c → c ≤ 50 → S9.1 c k = S.1 c k) ∧ ∀ n, rxq S n → (r = 0 ↔ pf (ps_text s (S.1 42) n) ≠ 0) ∧ (pf (ps_text s (S.1 42) n) = 0 → rqT s S9 (ps_text s (S.1 42) n)) := by
  refine ⟨fun c k h1 h2 => ?_, fun n q => ?_⟩
  · rw [h.1.1 c k (by unfold rpt rpl; omega)]; exact (rx0_fx S).1 c k (by omega)
  · obtain ⟨q1, e⟩ := rx_q q
    have g := h.2 n q1
    rw [e] at g
    exact ⟨g.2.2.2.1, g.2.2.2.2⟩
theorem rd_bad {s at_ r : Int32} {S S9 : ex_S} (h : rc178 s (rx0 S) r S9) (c : r = 0) : rxD s at_ S (-1) S9 := by
  obtain ⟨F, g⟩ := rd_rd h
  intro n q
  exact ⟨fun _ c k h1 h2 => F c k (by omega) h2, fun _ z => absurd z ((g n q).1.mp c)⟩
theorem rd_good {s at_ r v w d : Int32} {S S9 S_q : ex_S} {b : Nat} (ok : ∀ n, rxq S n → txok s at_ (S.1 46 s.toNatClampNeg) (vf176 s)) (h : rc178 s (rx0 S) r S9) (c : ¬ r = 0) (hb : b = 28 + cxi s) (hw : w = Int32.ofNat (rwdt s)) (h2 : stC b w v (ex_sx S9 46 s.toNatClampNeg ((S9.1 46 s.toNatClampNeg) + d)) S_q) (hv : ∀ n, rxq S n → 0 ≤ v ∧ v ≤ 3) : rxD s at_ S v S_q := by
  obtain ⟨F, g⟩ := rd_rd h
  intro n q
  obtain ⟨g1, g2⟩ := g n q
  have pz : pf (ps_text s (S.1 42) n) = 0 := Classical.not_not.mp (fun z => c (g1.mpr z))
  obtain ⟨l4, ev⟩ := s4_of (hv n q)
  have b47 : 47 ≤ b ∧ b ≤ 50 := by
    rw [hb]
    unfold cxi
    split
    · omega
    · split
      · omega
      · split <;> omega
  have wl : rwdt s ≤ 700 := by
    unfold rwdt
    split
    · omega
    · split
      · omega
      · split <;> omega
  have st := h2.2 (rwdt s) v.toNatClampNeg hw ev wl (by omega) (by omega)
  refine ⟨fun z => absurd ⟨ok n q, pz⟩ z, fun _ _ => ⟨S9, g2 pz, by omega, fun c k h1 h3 => ?_⟩⟩
  by_cases y : c = 28 + cxi s
  · rw [if_pos y]
    rw [y, ← hb, st]
    have e1 : (ex_sx S9 46 s.toNatClampNeg ((S9.1 46 s.toNatClampNeg) + d)).1 b = S.1 b := by
      funext j
      rw [ex_sx_ne (by omega)]; exact F b j (by omega) (by omega)
    have e2 : (ex_sx S9 46 s.toNatClampNeg ((S9.1 46 s.toNatClampNeg) + d)).1 51 = S9.1 51 := by
      funext j
      exact ex_sx_ne (by omega)
    rw [e1, e2]
  · rw [if_neg y, h2.1.1 c k (by omega), ex_sx_ne (by omega)]
    exact F c k (by omega) h3
theorem rd_v1 {s a : Int32} {S : ex_S} (ok : ∀ n, rxq S n → txok s a (S.1 46 s.toNatClampNeg) (vf176 s)) (c1 : ¬ a = -1) : ∀ n, rxq S n → 0 ≤ a ∧ a ≤ 3 := fun n q => by
  have z := ok n q
  obtain ⟨z1, z2⟩ := z.2.2.2 c1
  have b := (q.2.2.2 _ (s4_of ⟨z.1, z.2.1⟩).1).1.2
  have l := Int32.lt_iff_toInt_lt.mp z2
  refine ⟨z1, Int32.le_iff_toInt_le.mpr ?_⟩
  rw [show (3 : Int32).toInt = 3 from rfl]
  omega
theorem rd_v2 {s a r : Int32} {S S9 : ex_S} (ok : ∀ n, rxq S n → txok s a (S.1 46 s.toNatClampNeg) (vf176 s)) (h : rc178 s (rx0 S) r S9) : ∀ n, rxq S n → 0 ≤ S9.1 46 s.toNatClampNeg ∧ S9.1 46 s.toNatClampNeg ≤ 3 := fun n q => by
  have z := ok n q
  rw [(rd_rd h).1 46 _ (by omega) (by omega)]
  have b := (q.2.2.2 _ (s4_of ⟨z.1, z.2.1⟩).1).1
  refine ⟨Int32.le_iff_toInt_le.mpr ?_, Int32.le_iff_toInt_le.mpr ?_⟩
  · rw [show (0 : Int32).toInt = 0 from rfl]; exact b.1
  · rw [show (3 : Int32).toInt = 3 from rfl]; exact b.2
theorem rd_c0 {s : Int32} (e : s = 0) : 47 = 28 + cxi s ∧ (100 : Int32) = Int32.ofNat (rwdt s) := by
  subst e; exact ⟨by decide, by decide⟩
theorem rd_c1 {s : Int32} (e : s = 1) : 48 = 28 + cxi s ∧ (13 : Int32) = Int32.ofNat (rwdt s) := by
  subst e; exact ⟨by decide, by decide⟩
theorem rd_c2 {s : Int32} (e : s = 2) : 49 = 28 + cxi s ∧ (152 : Int32) = Int32.ofNat (rwdt s) := by
  subst e; exact ⟨by decide, by decide⟩
theorem rd_c3 {s : Int32} (e0 : ¬ s = 0) (e1 : ¬ s = 1) (e2 : ¬ s = 2) : 50 = 28 + cxi s ∧ (25 : Int32) = Int32.ofNat (rwdt s) := by
  unfold cxi rwdt
  rw [if_neg e0, if_neg e1, if_neg e2, if_neg e0, if_neg e1, if_neg e2]
  exact ⟨by decide, by decide⟩
theorem ec175d : es175 rxD := by
  refine ev175 ec178 ec193 ?_ ?_ ?_ ?_ ?_ ?_ ?_ ?_ ?_ ?_ ?_ ?_ ?_
  · intro s a S c
    exact rd_no (fun n q z => vf174_n c ⟨z.1, z.2.1⟩)
  · intro s a S c c1 c2 r S9 h9 c3 e S_q h_q
    exact rd_good (rx_ok1 c c1 c2) h9 c3 (rd_c0 e).1 (rd_c0 e).2 h_q (rd_v1 (rx_ok1 c c1 c2) c1)
  · intro s a S c c1 c2 r S9 h9 c3 _ e S_q h_q
    exact rd_good (rx_ok1 c c1 c2) h9 c3 (rd_c1 e).1 (rd_c1 e).2 h_q (rd_v1 (rx_ok1 c c1 c2) c1)
  · intro s a S c c1 c2 r S9 h9 c3 _ _ e S_q h_q
    exact rd_good (rx_ok1 c c1 c2) h9 c3 (rd_c2 e).1 (rd_c2 e).2 h_q (rd_v1 (rx_ok1 c c1 c2) c1)
  · intro s a S c c1 c2 r S9 h9 c3 e0 e1 e2 S_q h_q
    exact rd_good (rx_ok1 c c1 c2) h9 c3 (rd_c3 e0 e1 e2).1 (rd_c3 e0 e1 e2).2 h_q (rd_v1 (rx_ok1 c c1 c2) c1)
  · intro s a S c c1 c2 r S9 h9 c3
    exact rd_bad h9 (Classical.not_not.mp c3)
  · intro s a S c c1 c2
    refine rd_no (fun n q z => vf174_n (Classical.not_not.mp c2) ?_)
    exact (rx_at (s := s) (q.2.2.2 _ (s4_of (vf174_y c)).1).1).mpr (z.2.2.2 c1)
  · intro s a S c c1 c2 r S9 h9 c3 e S_q h_q
    have ok := rx_ok2 c (Classical.not_not.mp c1) c2
    exact rd_good ok h9 c3 (rd_c0 e).1 (rd_c0 e).2 h_q (rd_v2 ok h9)
  · intro s a S c c1 c2 r S9 h9 c3 _ e S_q h_q
    have ok := rx_ok2 c (Classical.not_not.mp c1) c2
    exact rd_good ok h9 c3 (rd_c1 e).1 (rd_c1 e).2 h_q (rd_v2 ok h9)
  · intro s a S c c1 c2 r S9 h9 c3 _ _ e S_q h_q
    have ok := rx_ok2 c (Classical.not_not.mp c1) c2
    exact rd_good ok h9 c3 (rd_c2 e).1 (rd_c2 e).2 h_q (rd_v2 ok h9)
  · intro s a S c c1 c2 r S9 h9 c3 e0 e1 e2 S_q h_q
    have ok := rx_ok2 c (Classical.not_not.mp c1) c2
    exact rd_good ok h9 c3 (rd_c3 e0 e1 e2).1 (rd_c3 e0 e1 e2).2 h_q (rd_v2 ok h9)
  · intro s a S c c1 c2 r S9 h9 c3
    exact rd_bad h9 (Classical.not_not.mp c3)
  · intro s a S c c1 c2
    have c1 := Classical.not_not.mp c1
    have c2 := Classical.not_not.mp c2
    refine rd_no (fun n q z => ?_)
    have l := z.2.2.1 c1
    rw [c2] at l
    exact Int32.lt_irrefl l
/-! a MEAL's away is told without a second number -/
def aw (A : pA) : Prop := ∀ k, k < pic A → pit A k 0 = 1 → pit A k 2 = -1
theorem aw_22 {A B : pA} (e : B.2.2 = A.2.2) (h : aw A) : aw B := by
  have e1 : pic B = pic A := congrArg (fun x => x.1) e
  have e2 : pit B = pit A := congrArg (fun x => x.2.1) e
  intro k hk
  rw [e1] at hk
  rw [e2]
  exact h k hk
theorem pnote_22 (A : pA) (c : Bool) (f p : Int32) : (pnote A c f p).2.2 = A.2.2 := by
  unfold pnote
  split <;> rfl
theorem pan_22 (T : Nat → Int32) (n w b : Nat) (A : pA) (i : Nat) : (pan T n w b A i).2.2 = A.2.2 := by
  induction i with
  | zero => rfl
  | succ i ih => exact (pnote_22 _ _ _ _).trans ih
theorem aw_keep {w : Nat} {l : Nat → Int32} {A : pA} (h3 : 3 ≤ w) (h6 : w ≤ 6) (hl : w = 5 → l 1 = -1) (h : aw A) : aw (pkeep w l A) := by
  by_cases w4 : 4 ≤ w
  · rw [pkeep_4 w4]
    intro k hk h0
    have hk : k < pic A + 1 := hk
    have h0 : (if k = pic A then (if (0 : Nat) = 0 then pkt w else l (0 - 1)) else pit A k 0) = 1 := h0
    show (if k = pic A then (if (2 : Nat) = 0 then pkt w else l (2 - 1)) else pit A k 2) = -1
    by_cases e : k = pic A
    · rw [if_pos e, if_pos rfl] at h0
      rw [if_pos e, if_neg (by decide)]
      refine hl ?_
      rcases (show w = 4 ∨ w = 5 ∨ w = 6 by omega) with z | z | z
      · subst z; exact absurd h0 (by decide)
      · exact z
      · subst z; exact absurd h0 (by decide)
    · rw [if_neg e] at h0 ⊢
      exact h k (by omega) h0
  · have : w = 3 := by omega
    subst this
    rw [pkeep_3]
    exact h
theorem aw_line {T : Nat → Int32} {n w s b : Nat} {A : pA} (h3 : 3 ≤ w) (h6 : w ≤ 6) (h : aw A) : aw (pline T n w s b A) := by
  have h1 : aw (pan T n w b (pnote A (pmany w A) 3 (Int32.ofNat s)) (pnl w)) := aw_22 ((pan_22 _ _ _ _ _ _).trans (pnote_22 _ _ _ _)) h
  unfold pline
  split
  · refine aw_keep h3 h6 (fun z => ?_) h1
    subst z
    unfold pll
    rw [if_neg (by decide), if_neg (by decide)]
  · exact h1
theorem aw_run (T : Nat → Int32) (n : Nat) : ∀ (k b : Nat) (A A_q : pA), aw A → ps_run 2 T n k b A = .inr A_q → aw A_q
  | 0, _, A, A_q, h, e => by
    have e : (Sum.inr A : Nat ⊕ pA) = .inr A_q := e
    cases e; exact h
  | k + 1, b, A, A_q, h, e => by
    rw [ps_un] at e
    split at e
    · cases e; exact h
    · split at e
      · cases e
      · rename_i hw
        split at e
        · cases e
        · refine aw_run T n k _ _ A_q (aw_line ?_ ?_ h) e
          · rcases pws_8 T n b with z | ⟨w, w3, z⟩
            · exact absurd (show pfw 2 T n b = -1 by unfold pfw; rw [show pwt 2 = 8 from rfl, if_pos z]) hw
            · have ez : pfw 2 T n b = Int32.ofNat (3 + w) := by
                unfold pfw
                rw [show pwt 2 = 8 from rfl, if_neg (fun y => n32_nm (by omega) (z.symm.trans y)), z, show pwb 2 = Int32.ofNat 3 from rfl, n32_add]
              rw [ez, n32_tn (by omega)]
              omega
          · rcases pws_8 T n b with z | ⟨w, w3, z⟩
            · exact absurd (show pfw 2 T n b = -1 by unfold pfw; rw [show pwt 2 = 8 from rfl, if_pos z]) hw
            · have ez : pfw 2 T n b = Int32.ofNat (3 + w) := by
                unfold pfw
                rw [show pwt 2 = 8 from rfl, if_neg (fun y => n32_nm (by omega) (z.symm.trans y)), z, show pwb 2 = Int32.ofNat 3 from rfl, n32_add]
              rw [ez, n32_tn (by omega)]
              omega
theorem aw_text (T : Nat → Int32) (n : Nat) : aw (ps_text 2 T n) := by
  unfold ps_text
  split
  · intro k hk
    exact absurd hk (Nat.not_lt_zero k)
  · rename_i A e
    refine aw_22 (pnote_22 _ _ _ _) ?_
    unfold ps_all at e
    rw [if_neg (by decide)] at e
    exact aw_run T n 601 0 pA0 A (fun k hk => absurd hk (Nat.not_lt_zero k)) e
/-! a LIST's acts are told as one of five words -/
theorem pws_10 (T : Nat → Int32) (n b : Nat) : pws 10 T n b = -1 ∨ ∃ w, w ≤ 4 ∧ pws 10 T n b = Int32.ofNat w := by
  unfold pws
  split
  · rw [wa_10]
    split
    · exact Or.inr ⟨0, by decide, rfl⟩
    · split
      · exact Or.inr ⟨1, by decide, rfl⟩
      · split
        · exact Or.inr ⟨2, by decide, rfl⟩
        · split
          · exact Or.inr ⟨3, by decide, rfl⟩
          · split
            · exact Or.inr ⟨4, by decide, rfl⟩
            · exact Or.inl rfl
  · exact Or.inl rfl
def aa (A : pA) : Prop := ∀ k, k < pic A → ∃ w, w ≤ 4 ∧ pit A k 3 = Int32.ofNat w
theorem aa_22 {A B : pA} (e : B.2.2 = A.2.2) (h : aa A) : aa B := by
  have e1 : pic B = pic A := congrArg (fun x => x.1) e
  have e2 : pit B = pit A := congrArg (fun x => x.2.1) e
  intro k hk
  rw [e1] at hk
  rw [e2]
  exact h k hk
theorem aa_keep {w : Nat} {l : Nat → Int32} {A : pA} (hw : w ≤ 2) (hl : w = 0 → ∃ z, z ≤ 4 ∧ l 3 = Int32.ofNat z) (h : aa A) : aa (pkeep w l A) := by
  rcases (show w = 0 ∨ w = 1 ∨ w = 2 by omega) with z | z | z
  · subst z
    rw [pkeep_0]
    intro k hk
    have hk : k < pic A + 1 := hk
    show ∃ z, z ≤ 4 ∧ (if k = pic A then l 3 else pit A k 3) = Int32.ofNat z
    by_cases e : k = pic A
    · rw [if_pos e]; exact hl rfl
    · rw [if_neg e]; exact h k (by omega)
  · subst z
    rw [pkeep_1]
    exact h
  · subst z
    rw [pkeep_2]
    exact h
theorem aa_line {T : Nat → Int32} {n w s b : Nat} {A : pA} (hw : w ≤ 2) (hf : pl_fail T n w b = none) (h : aa A) : aa (pline T n w s b A) := by
  have h1 : aa (pan T n w b (pnote A (pmany w A) 3 (Int32.ofNat s)) (pnl w)) := aa_22 ((pan_22 _ _ _ _ _ _).trans (pnote_22 _ _ _ _)) h
  unfold pline
  split
  · refine aa_keep hw (fun z => ?_) h1
    subst z
    have e3 : pll T n 0 b 3 = pws 10 T n (nb T n b 3) := by
      unfold pll
      rw [if_neg (by decide), if_pos ⟨rfl, rfl⟩]
    rw [e3]
    rcases pws_10 T n (nb T n b 3) with y | y
    · exfalso
      unfold pl_fail at hf
      split at hf
      · cases hf
      · unfold pl_t at hf
        rw [if_pos rfl, show pnl 0 = 3 from rfl, if_pos y] at hf
        cases hf
    · exact y
  · exact h1
theorem aa_run (T : Nat → Int32) (n : Nat) : ∀ (k b : Nat) (A A_q : pA), aa A → ps_run 0 T n k b A = .inr A_q → aa A_q
  | 0, _, A, A_q, h, e => by
    have e : (Sum.inr A : Nat ⊕ pA) = .inr A_q := e
    cases e; exact h
  | k + 1, b, A, A_q, h, e => by
    rw [ps_un] at e
    split at e
    · cases e; exact h
    · split at e
      · cases e
      · rename_i hw
        split at e
        · cases e
        · rename_i hf
          refine aa_run T n k _ _ A_q (aa_line ?_ hf h) e
          rcases pws_7 T n b with z | ⟨w, w3, z⟩
          · exact absurd (show pfw 0 T n b = -1 by unfold pfw; rw [show pwt 0 = 7 from rfl, if_pos z]) hw
          · have ez : pfw 0 T n b = Int32.ofNat w := by
              unfold pfw
              rw [show pwt 0 = 7 from rfl, if_neg (fun y => n32_nm (by omega) (z.symm.trans y)), z, show pwb 0 = Int32.ofNat 0 from rfl, n32_add, Nat.zero_add]
            rw [ez, n32_tn (by omega)]
            omega
theorem aa_text (T : Nat → Int32) (n : Nat) : aa (ps_text 0 T n) := by
  unfold ps_text
  split
  · intro k hk
    exact absurd hk (Nat.not_lt_zero k)
  · rename_i A e
    refine aa_22 (pnote_22 _ _ _ _) ?_
    unfold ps_all at e
    rw [if_neg (by decide)] at e
    exact aa_run T n 601 0 pA0 A (fun k hk => absurd hk (Nat.not_lt_zero k)) e
end
