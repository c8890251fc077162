/-! FEED, END, FAULT, COUNT: both sides -/
/-- a number's byte -/
def fb (a x : Int32) : Int32 := ((a >>> (x &&& 31)).toInt8.toInt32).toInt8.toInt32
def fxs (i : Nat) : Int32 := if i = 0 then 24 else if i = 1 then 16 else if i = 2 then 8 else if i = 3 then 0 else -8
theorem fxs_s : ∀ i, i < 4 → fxs i + (-8) = fxs (i + 1) := by decide
theorem fxs_nn : ∀ i, i < 4 → ¬ fxs i < 0 := by decide
theorem fb_bv (a : BitVec 32) (k : Nat) (hk : k ≤ 24) : (a >>> k).signExtend 8 = (a.sshiftRight k).signExtend 8 := by
  apply BitVec.eq_of_getLsbD_eq
  intro i hi
  rw [BitVec.getLsbD_signExtend, BitVec.getLsbD_signExtend, BitVec.getLsbD_ushiftRight, BitVec.getLsbD_sshiftRight, if_pos (show i < 32 by omega), if_pos (show i < 32 by omega), if_pos (show k + i < 32 by omega), decide_eq_false (show ¬ 32 ≤ i by omega)]
  simp
theorem fb_u (a : Int32) : ∀ i, i < 4 → (((a.toUInt32 >>> ((fxs i).toUInt32 &&& Int32.toUInt32 31)).toInt32).toInt8.toInt32).toInt8.toInt32 = fb a (fxs i) := by
  have key : ∀ (x : Int32) (k : Nat), k ≤ 24 → (x.toUInt32 &&& Int32.toUInt32 31) = UInt32.ofNat k → (x &&& 31) = Int32.ofNat k → (((a.toUInt32 >>> (x.toUInt32 &&& Int32.toUInt32 31)).toInt32).toInt8.toInt32).toInt8.toInt32 = fb a x := by
    intro x k hk e1 e2
    unfold fb
    rw [e1, e2]
    have e : ((a.toUInt32 >>> UInt32.ofNat k).toInt32).toInt8 = (a >>> Int32.ofNat k).toInt8 := by
      apply Int8.toBitVec_inj.mp
      have m : k % 32 = k := Nat.mod_eq_of_lt (by omega)
      have l : (a.toUInt32 >>> UInt32.ofNat k).toInt32.toBitVec = a.toBitVec >>> k := by
        show (a.toUInt32 >>> UInt32.ofNat k).toBitVec = a.toBitVec >>> k
        rw [UInt32.toBitVec_shiftRight]
        have hk2 : ∀ k, k ≤ 24 → ((UInt32.ofNat k).toBitVec % 32) = BitVec.ofNat 32 k := by decide
        rw [hk2 k hk]
        show a.toBitVec >>> (BitVec.ofNat 32 k).toNat = a.toBitVec >>> k
        rw [BitVec.toNat_ofNat, Nat.mod_eq_of_lt (by omega)]
      have r : (a >>> Int32.ofNat k).toBitVec = a.toBitVec.sshiftRight k := by
        rw [Int32.toBitVec_shiftRight, BitVec.sshiftRight_eq']
        have : ((Int32.ofNat k).toBitVec.smod 32).toNat = k := by
          have hk' : ∀ k, k ≤ 24 → ((Int32.ofNat k).toBitVec.smod 32).toNat = k := by decide
          exact hk' k hk
        rw [this]
      rw [Int32.toBitVec_toInt8, Int32.toBitVec_toInt8, l, r]
      exact fb_bv _ k hk
    rw [e]
  intro i hi
  match i, hi with
  | 0, _ => exact key 24 24 (by decide) (by decide) (by decide)
  | 1, _ => exact key 16 16 (by decide) (by decide) (by decide)
  | 2, _ => exact key 8 8 (by decide) (by decide) (by decide)
  | 3, _ => exact key 0 0 (by decide) (by decide) (by decide)
  | i + 4, h => exact absurd h (by omega)
/-- a tape with i bytes of a number at n -/
def fwi (T : Nat → Int32) (n : Nat) (a : Int32) (i j : Nat) : Int32 := if n ≤ j ∧ j < n + i then fb a (fxs (j - n)) else T j
theorem fwi_0 (T : Nat → Int32) (n : Nat) (a : Int32) (j : Nat) : fwi T n a 0 j = T j := by
  unfold fwi
  rw [if_neg (fun z => by omega)]
theorem fwi_s (T : Nat → Int32) (n : Nat) (a : Int32) (i j : Nat) : fwi T n a (i + 1) j = if j = n + i then fb a (fxs i) else fwi T n a i j := by
  unfold fwi
  by_cases e : j = n + i
  · rw [if_pos e, if_pos (show n ≤ j ∧ j < n + (i + 1) from ⟨by omega, by omega⟩), show j - n = i by omega]
  · rw [if_neg e]
    by_cases q : n ≤ j ∧ j < n + i
    · rw [if_pos q, if_pos (show n ≤ j ∧ j < n + (i + 1) from ⟨q.1, by omega⟩)]
    · rw [if_neg q, if_neg (show ¬ (n ≤ j ∧ j < n + (i + 1)) from fun z => q ⟨z.1, by omega⟩)]
theorem fwi_cg {T U : Nat → Int32} {n : Nat} {a : Int32} {i j : Nat} (h : T j = U j) : fwi T n a i j = fwi U n a i j := by
  unfold fwi
  rw [h]
def fP (tp ob fl : Nat) (c k : Nat) : Prop := c = tp ∨ (c = ob ∧ k = fl)
def fI (tp ob fl : Nat) (a : Int32) (S : ex_S) (x : Int32) (T : ex_S) : Prop := ex_fx (fP tp ob fl) S T ∧ ∀ n, S.1 ob fl = Int32.ofNat n → n + 4 ≤ 600 → ∃ i, i ≤ 4 ∧ x = fxs i ∧ T.1 ob fl = Int32.ofNat (n + i) ∧ ∀ j, T.1 tp j = fwi (S.1 tp) n a i j
def fC (tp ob fl : Nat) (a : Int32) (S T : ex_S) : Prop := ex_fx (fP tp ob fl) S T ∧ ∀ n, S.1 ob fl = Int32.ofNat n → n + 4 ≤ 600 → T.1 ob fl = Int32.ofNat (n + 4) ∧ ∀ j, T.1 tp j = fwi (S.1 tp) n a 4 j
theorem fI_0 (tp ob fl : Nat) (a : Int32) (S : ex_S) : fI tp ob fl a S 24 S := ⟨ex_fx.refl _ S, fun n e hn => ⟨0, by omega, rfl, e, fun j => (fwi_0 _ _ _ _).symm⟩⟩
theorem fI_e {tp ob fl : Nat} {a x : Int32} {S T : ex_S} (h : fI tp ob fl a S x T) (c : x < 0) : fC tp ob fl a S T := by
  refine ⟨h.1, fun n e hn => ?_⟩
  obtain ⟨i, i1, i2, i3, i4⟩ := h.2 n e hn
  have i5 : i = 4 := by
    rcases Nat.lt_or_ge i 4 with z | z
    · rw [i2] at c; exact absurd c (fxs_nn i z)
    · omega
  subst i5
  exact ⟨i3, i4⟩
theorem fI_i {x : Int32} {i : Nat} (hi : i ≤ 4) (e : x = fxs i) (c : ¬ x < 0) : i < 4 := by
  rcases Nat.lt_or_ge i 4 with z | z
  · exact z
  · have : i = 4 := by omega
    subst this
    rw [e] at c
    exact absurd (show fxs 4 < 0 by decide) c
theorem fI_s {tp ob fl : Nat} {a x v : Int32} {S T : ex_S} (ht : tp ≠ ob) (h : fI tp ob fl a S x T) (c : ¬ x < 0) (hv : ∀ i, i < 4 → x = fxs i → v = fb a (fxs i)) : fI tp ob fl a S (x + (-8)) (ex_sx (ex_sx T tp ((T.1 ob fl).toNatClampNeg) v) ob fl ((T.1 ob fl) + 1)) := by
  refine ⟨(h.1.sx (Or.inl rfl)).sx (Or.inr ⟨rfl, rfl⟩), fun n e hn => ?_⟩
  obtain ⟨i, i1, i2, i3, i4⟩ := h.2 n e hn
  have i5 := fI_i i1 i2 c
  have v1 := hv i i5 i2
  refine ⟨i + 1, by omega, by rw [i2]; exact fxs_s i i5, by rw [ex_sx_eq, i3]; exact n32_s (n + i), fun j => ?_⟩
  rw [ex_sx_ne (fun z => ht z.1), ex_sx_at, i3, n32_tn (by omega), fwi_s, v1]
  by_cases q : j = n + i
  · rw [if_pos ⟨rfl, q⟩, if_pos q]
  · rw [if_neg (fun z => q z.2), if_neg q]; exact i4 j
theorem ec172 : es172 (fC 42 43 0) := by
  refine ev172 (I3 := fI 42 43 0) ?_ ?_ ?_
  · intro a S; exact fI_0 42 43 0 a S
  · intro a S x T h c; exact fI_e h c
  · intro a S x T h c
    exact fI_s (by decide) h c (fun i _ e => by rw [← e]; rfl)
theorem ec8 : es8 (fC 18 17 1) := by
  refine ev8 (I3 := fI 18 17 1) ?_ ?_ ?_ ?_
  · intro a S; exact fI_0 18 17 1 a S
  · intro a S x T h c; exact fI_e h c
  · intro a S x T h c c2
    refine ⟨h.1, fun n e hn => ?_⟩
    obtain ⟨i, i1, i2, i3, i4⟩ := h.2 n e hn
    have i5 := fI_i i1 i2 c
    rw [i3, show (600 : Int32) = Int32.ofNat 600 from rfl, n32_le (by omega) (by omega)] at c2
    exact absurd c2 (by omega)
  · intro a S x T h c _
    exact fI_s (by decide) h c (fun i hi e => by rw [e]; exact fb_u a i hi)
/-- feed: the answer, the tape -/
def fw5 (T : Nat → Int32) (n : Nat) (a0 a1 a2 a3 a4 : Int32) : Nat → Int32 := fwi (fwi (fwi (fwi (fwi T n a0 4) (n + 4) a1 4) (n + 4 + 4) a2 4) (n + 4 + 4 + 4) a3 4) (n + 4 + 4 + 4 + 4) a4 4
theorem fw5_cg {T U : Nat → Int32} {n : Nat} {a0 a1 a2 a3 a4 : Int32} {j : Nat} (h : T j = U j) : fw5 T n a0 a1 a2 a3 a4 j = fw5 U n a0 a1 a2 a3 a4 j := fwi_cg (fwi_cg (fwi_cg (fwi_cg (fwi_cg h))))
def fF (tp ob fl : Nat) (a0 a1 a2 a3 a4 : Int32) (S : ex_S) (v : Int32) (S' : ex_S) : Prop := ex_fx (fun c k => fP tp ob fl c k ∨ (c = 41 ∧ k = 0)) S S' ∧ ∀ n, S.1 ob fl = Int32.ofNat n → n ≤ 600 → (n ≤ 580 → v = Int32.ofNat (n + 20) ∧ S'.1 ob fl = Int32.ofNat (n + 20) ∧ ∀ j, S'.1 tp j = fw5 (S.1 tp) n a0 a1 a2 a3 a4 j) ∧ (¬ n ≤ 580 → v = -1 ∧ S'.1 ob fl = S.1 ob fl ∧ ∀ j, S'.1 tp j = S.1 tp j)
theorem fF_c {tp ob fl : Nat} {S S0 : ex_S} {n : Nat} (e : S.1 ob fl = Int32.ofNat n) (hn : n ≤ 600) : S.1 ob fl + 20 ≤ 600 ↔ n ≤ 580 := by
  rw [e, show (20 : Int32) = Int32.ofNat 20 from rfl, show (600 : Int32) = Int32.ofNat 600 from rfl, n32_add, n32_le (by omega) (by omega)]
  omega
theorem fF_y {tp ob fl : Nat} {a0 a1 a2 a3 a4 : Int32} {S S0 S1 S2 S3 S4 S5 : ex_S} (ho : ¬ (ob = 41 ∧ fl = 0)) (ht : tp ≠ 41) (F : ex_fx (fun c k => c = 41 ∧ k = 0) S S0) (c : S.1 ob fl + 20 ≤ 600) (h1 : fC tp ob fl a0 S0 S1) (h2 : fC tp ob fl a1 S1 S2) (h3 : fC tp ob fl a2 S2 S3) (h4 : fC tp ob fl a3 S3 S4) (h5 : fC tp ob fl a4 S4 S5) : fF tp ob fl a0 a1 a2 a3 a4 S (S5.1 ob fl) S5 := by
  refine ⟨(F.mono (fun _ _ z => Or.inr z)).trans ((((h1.1.trans h2.1).trans h3.1).trans (h4.1.trans h5.1)).mono (fun _ _ z => Or.inl z)), fun n e hn => ⟨fun q => ?_, fun q => absurd ((fF_c (tp := tp) (S0 := S0) e hn).mp c) q⟩⟩
  have e0 : S0.1 ob fl = Int32.ofNat n := (F.1 ob fl ho).trans e
  have t0 : ∀ j, S0.1 tp j = S.1 tp j := fun j => F.1 tp j (fun z => ht z.1)
  obtain ⟨e1, t1⟩ := h1.2 n e0 (by omega)
  obtain ⟨e2, t2⟩ := h2.2 _ e1 (by omega)
  obtain ⟨e3, t3⟩ := h3.2 _ e2 (by omega)
  obtain ⟨e4, t4⟩ := h4.2 _ e3 (by omega)
  obtain ⟨e5, t5⟩ := h5.2 _ e4 (by omega)
  refine ⟨e5, e5, fun j => ?_⟩
  unfold fw5
  rw [t5]; refine fwi_cg ?_
  rw [t4]; refine fwi_cg ?_
  rw [t3]; refine fwi_cg ?_
  rw [t2]; refine fwi_cg ?_
  rw [t1]; exact fwi_cg (t0 j)
theorem fF_n {tp ob fl : Nat} {a0 a1 a2 a3 a4 : Int32} {S S0 : ex_S} (ho : ¬ (ob = 41 ∧ fl = 0)) (ht : tp ≠ 41) (F : ex_fx (fun c k => c = 41 ∧ k = 0) S S0) (c : ¬ (S.1 ob fl + 20 ≤ 600)) : fF tp ob fl a0 a1 a2 a3 a4 S (-1) S0 :=
  ⟨F.mono (fun _ _ z => Or.inr z), fun n e hn => ⟨fun q => absurd ((fF_c (tp := tp) (S0 := S0) e hn).mpr q) c, fun _ => ⟨rfl, F.1 ob fl ho, fun j => F.1 tp j (fun z => ht z.1)⟩⟩⟩
theorem ec171 : es171 (fF 42 43 0) := by
  refine ev171 ec172 ?_ ?_
  · intro a0 a1 a2 a3 a4 S c S1 h1 S2 h2 S3 h3 S4 h4 S5 h5
    exact fF_y (by decide) (by decide) ((ex_fx.refl _ S).sx ⟨rfl, rfl⟩) c h1 h2 h3 h4 h5
  · intro a0 a1 a2 a3 a4 S c
    exact fF_n (by decide) (by decide) ((ex_fx.refl _ S).sx ⟨rfl, rfl⟩) c
theorem ec7 : es7 (fF 18 17 1) := by
  refine ev7 ec8 ?_ ?_
  · intro a0 a1 a2 a3 a4 S c S1 h1 S2 h2 S3 h3 S4 h4 S5 h5
    exact fF_y (by decide) (by decide) (ex_fx.refl _ S) c h1 h2 h3 h4 h5
  · intro a0 a1 a2 a3 a4 S c
    exact fF_n (by decide) (by decide) (ex_fx.refl _ S) c
/-- end -/
def eE (ob fl : Nat) (a : Int32) (S : ex_S) (v : Int32) (S' : ex_S) : Prop := ex_fx (fun c k => (c = ob ∧ k = fl) ∨ (c = 41 ∧ k = 0)) S S' ∧ (0 ≤ a ∧ a ≤ S.1 ob fl → v = a ∧ S'.1 ob fl = a) ∧ (¬ (0 ≤ a ∧ a ≤ S.1 ob fl) → v = -1 ∧ S'.1 ob fl = S.1 ob fl)
theorem ec173 : es173 (eE 43 0) := by
  refine ev173 ?_ ?_
  · intro a S c
    unfold vf174 at c
    rw [vf_0] at c
    have c := Classical.not_not.mp c
    exact ⟨((ex_fx.refl _ S).sx (Or.inr ⟨rfl, rfl⟩)).sx (Or.inl ⟨rfl, rfl⟩), fun _ => ⟨rfl, ex_sx_eq⟩, fun z => absurd c z⟩
  · intro a S c
    unfold vf174 at c
    rw [vf_0] at c
    have c : ¬ (0 ≤ a ∧ a ≤ S.1 43 0) := fun z => c (fun w => w z)
    exact ⟨(ex_fx.refl _ S).sx (Or.inr ⟨rfl, rfl⟩), fun z => absurd z c, fun _ => ⟨rfl, ex_sx_ne (by decide)⟩⟩
theorem ec9 : es9 (eE 17 1) := by
  refine ev9 ?_ ?_ ?_
  · intro a S c
    have c : ¬ (0 ≤ a ∧ a ≤ S.1 17 1) := fun z => Int32.not_le.mpr c z.1
    exact ⟨ex_fx.refl _ S, fun z => absurd z c, fun _ => ⟨rfl, rfl⟩⟩
  · intro a S c c2
    exact ⟨(ex_fx.refl _ S).sx (Or.inl ⟨rfl, rfl⟩), fun _ => ⟨rfl, ex_sx_eq⟩, fun z => absurd ⟨Int32.not_lt.mp c, c2⟩ z⟩
  · intro a S c c2
    exact ⟨ex_fx.refl _ S, fun z => absurd z.2 c2, fun _ => ⟨rfl, rfl⟩⟩
/-- fault, count: f, p, c what is told -/
def qF (f p : ex_S → Int32) (a : Int32) (S : ex_S) (v : Int32) (S' : ex_S) : Prop := ex_fx (fun c k => c = 41 ∧ k = 0) S S' ∧ v = if a = 0 then f S else if a = 1 then p S else -1
theorem ec194 : es194 (qF (fun S => S.1 44 0) (fun S => S.1 45 0)) := by
  refine ev194 ?_ ?_ ?_
  · intro a S c c1
    exact ⟨(ex_fx.refl _ S).sx ⟨rfl, rfl⟩, by rw [if_neg c, if_neg c1]⟩
  · intro a S c c1
    exact ⟨(ex_fx.refl _ S).sx ⟨rfl, rfl⟩, by rw [if_neg c, if_pos (Classical.not_not.mp c1)]⟩
  · intro a S c
    exact ⟨(ex_fx.refl _ S).sx ⟨rfl, rfl⟩, by rw [if_pos (Classical.not_not.mp c)]⟩
theorem ec55 : es55 (qF (fun S => S.1 17 2) (fun S => S.1 17 3)) := by
  refine ev55 ?_ ?_ ?_
  · intro a S c c1
    exact ⟨ex_fx.refl _ S, by rw [if_neg c, if_neg c1]⟩
  · intro a S c c1
    exact ⟨ex_fx.refl _ S, by rw [if_neg c, if_pos (Classical.not_not.mp c1)]⟩
  · intro a S c
    exact ⟨ex_fx.refl _ S, by rw [if_pos (Classical.not_not.mp c)]⟩
def qC (ct : Nat) (a : Int32) (S : ex_S) (v : Int32) (S' : ex_S) : Prop := ex_fx (fun c k => c = 41 ∧ k = 0) S S' ∧ v = if 0 ≤ a ∧ a ≤ 3 then S.1 ct a.toNatClampNeg else -2
theorem ec294 : es294 (qC 46) := by
  refine ev294 ?_ ?_
  · intro a S c
    unfold vf174 at c
    rw [vf_0] at c
    exact ⟨(ex_fx.refl _ S).sx ⟨rfl, rfl⟩, by rw [if_neg c]⟩
  · intro a S c
    unfold vf174 at c
    rw [vf_0] at c
    exact ⟨(ex_fx.refl _ S).sx ⟨rfl, rfl⟩, by rw [if_pos (Classical.not_not.mp c)]⟩
theorem lt4_le3 {a : Int32} : a < 4 ↔ a ≤ 3 := by
  rw [Int32.lt_iff_toInt_lt, Int32.le_iff_toInt_le, show (4 : Int32).toInt = 4 from rfl, show (3 : Int32).toInt = 3 from rfl]
  omega
theorem ec56 : es56 (qC 23) := by
  refine ev56 ?_ ?_ ?_
  · intro a S c
    exact ⟨ex_fx.refl _ S, by rw [if_neg (fun z => Int32.not_le.mpr c z.1)]⟩
  · intro a S c c2
    exact ⟨ex_fx.refl _ S, by rw [if_pos ⟨Int32.not_lt.mp c, lt4_le3.mp c2⟩]⟩
  · intro a S c c2
    exact ⟨ex_fx.refl _ S, by rw [if_neg (fun z => c2 (lt4_le3.mpr z.2))]⟩
