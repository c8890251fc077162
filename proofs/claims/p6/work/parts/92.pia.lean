/-! IMAGE and AGAIN of the reference -/
theorem i8_id {v : Int32} (h : sf_B (-128) 127 v) : v.toInt8.toInt32 = v := by
  apply Int32.toInt_inj.mp
  rw [Int8.toInt_toInt32, Int32.toInt_toInt8]
  obtain ⟨h1, h2⟩ := h
  exact Int.bmod_eq_of_le (by omega) (by omega)
theorem ro_dis {w f t i : Nat} (hi : i < w) (hne : f ≠ t) : w * f + i < w * t ∨ w * t + w ≤ w * f + i := by
  rcases Nat.lt_or_gt_of_ne hne with z | z
  · have := Nat.mul_le_mul_left w (Nat.succ_le_of_lt z)
    rw [Nat.mul_succ] at this; omega
  · have := Nat.mul_le_mul_left w (Nat.succ_le_of_lt z)
    rw [Nat.mul_succ] at this; omega
/-- of rows of w, row t becomes what row f is, i numbers of it -/
def roi (T : Nat → Int32) (w f t i j : Nat) : Int32 := if w * t ≤ j ∧ j < w * t + i then T (w * f + (j - w * t)) else T j
theorem roi_0 (T : Nat → Int32) (w f t j : Nat) : roi T w f t 0 j = T j := by
  unfold roi
  rw [if_neg (fun z => by omega)]
theorem roi_s (T : Nat → Int32) (w f t i j : Nat) : roi T w f t (i + 1) j = if j = w * t + i then T (w * f + i) else roi T w f t i j := by
  unfold roi
  by_cases e : j = w * t + i
  · rw [if_pos e, if_pos (show w * t ≤ j ∧ j < w * t + (i + 1) from ⟨by omega, by omega⟩), show j - w * t = i by omega]
  · rw [if_neg e]
    by_cases q : w * t ≤ j ∧ j < w * t + i
    · rw [if_pos q, if_pos (show w * t ≤ j ∧ j < w * t + (i + 1) from ⟨q.1, by omega⟩)]
    · rw [if_neg q, if_neg (show ¬ (w * t ≤ j ∧ j < w * t + (i + 1)) from fun z => q ⟨z.1, by omega⟩)]
theorem roi_src {T : Nat → Int32} {w f t i : Nat} (hi : i < w) (hne : f ≠ t) : roi T w f t i (w * f + i) = T (w * f + i) := by
  unfold roi
  rcases ro_dis hi hne with z | z
  · rw [if_neg (fun y => by omega)]
  · rw [if_neg (fun y => by omega)]
theorem ro_ix {w t i : Nat} (hw : w ≤ 700) (ht : t ≤ 3) (hi : i ≤ w) : (Int32.ofNat w * Int32.ofNat t + Int32.ofNat i).toNatClampNeg = w * t + i := by
  have : w * t ≤ 700 * 3 := Nat.mul_le_mul hw ht
  rw [← Int32.ofNat_mul, n32_add, n32_tn (by omega)]
def roC (c : Nat) (a1 a2 a3 : Int32) (S S' : ex_S) : Prop := ex_fx (fun b _ => b = c) S S' ∧ ∀ w f t, a1 = Int32.ofNat w → a2 = Int32.ofNat f → a3 = Int32.ofNat t → w ≤ 700 → f ≤ 3 → t ≤ 3 → f ≠ t → ∀ j, S'.1 c j = roi (S.1 c) w f t w j
def roI (c : Nat) (a1 a2 a3 : Int32) (S : ex_S) (x : Int32) (T : ex_S) : Prop := ex_fx (fun b _ => b = c) S T ∧ ∀ w f t, a1 = Int32.ofNat w → a2 = Int32.ofNat f → a3 = Int32.ofNat t → w ≤ 700 → f ≤ 3 → t ≤ 3 → f ≠ t → ∃ i, i ≤ w ∧ x = Int32.ofNat i ∧ ∀ j, T.1 c j = roi (S.1 c) w f t i j
theorem ec297 : es297 roC := by
  refine ev297 (I3 := roI) ?_ ?_ ?_
  · intro c a1 a2 a3 S
    exact ⟨ex_fx.refl _ S, fun w f t _ _ _ _ _ _ _ => ⟨0, Nat.zero_le _, rfl, fun j => (roi_0 _ _ _ _ _).symm⟩⟩
  · intro c a1 a2 a3 S x T h q
    refine ⟨h.1, fun w f t e1 e2 e3 hw hf ht hne => ?_⟩
    obtain ⟨i, i1, i2, i3⟩ := h.2 w f t e1 e2 e3 hw hf ht hne
    rw [e1, i2, n32_le (by omega) (by omega)] at q
    have : i = w := by omega
    subst this
    exact i3
  · intro c a1 a2 a3 S x T h q
    refine ⟨h.1.sx rfl, fun w f t e1 e2 e3 hw hf ht hne => ?_⟩
    obtain ⟨i, i1, i2, i3⟩ := h.2 w f t e1 e2 e3 hw hf ht hne
    rw [e1, i2, n32_le (by omega) (by omega)] at q
    refine ⟨i + 1, by omega, by rw [i2]; exact n32_s i, fun j => ?_⟩
    rw [ex_sx_at, e1, e2, e3, i2, ro_ix hw ht (by omega), ro_ix hw hf (by omega), i3, roi_src (by omega) hne, roi_s]
    by_cases z : j = w * t + i
    · rw [if_pos ⟨rfl, z⟩, if_pos z]
    · rw [if_neg (fun y => z y.2), if_neg z]; exact i3 j
/-- all that is told comes from f to t -/
def raP (c : Nat) : Prop := 42 ≤ c ∧ c ≤ 50
def raC (a0 a1 : Int32) (S S' : ex_S) : Prop := ex_fx (fun c _ => raP c) S S' ∧ ∀ f t, a0 = Int32.ofNat f → a1 = Int32.ofNat t → f ≤ 3 → t ≤ 3 → f ≠ t → (∀ i, sf_B (-128) 127 (S.1 42 i)) → (∀ j, S'.1 42 j = roi (S.1 42) 600 f t 600 j) ∧ (∀ j, S'.1 43 j = roi (S.1 43) 1 f t 1 j) ∧ (∀ j, S'.1 44 j = roi (S.1 44) 1 f t 1 j) ∧ (∀ j, S'.1 45 j = roi (S.1 45) 1 f t 1 j) ∧ (∀ j, S'.1 46 j = roi (S.1 46) 4 f t 4 j) ∧ (∀ j, S'.1 47 j = roi (S.1 47) 200 f t 200 j) ∧ (∀ j, S'.1 48 j = roi (S.1 48) 39 f t 39 j) ∧ (∀ j, S'.1 49 j = roi (S.1 49) 304 f t 304 j) ∧ (∀ j, S'.1 50 j = roi (S.1 50) 50 f t 50 j)
def raI (a0 a1 : Int32) (S : ex_S) (x : Int32) (T : ex_S) : Prop := ex_fx (fun c _ => c = 42) S T ∧ ∀ f t, a0 = Int32.ofNat f → a1 = Int32.ofNat t → f ≤ 3 → t ≤ 3 → f ≠ t → (∀ i, sf_B (-128) 127 (S.1 42 i)) → ∃ i, i ≤ 600 ∧ x = Int32.ofNat i ∧ ∀ j, T.1 42 j = roi (S.1 42) 600 f t i j
theorem ec296 : es296 raC := by
  refine ev296 (I2 := raI) ec297 ?_ ?_ ?_
  · intro a0 a1 S
    exact ⟨ex_fx.refl _ S, fun f t _ _ _ _ _ _ => ⟨0, by omega, rfl, fun j => (roi_0 _ _ _ _ _).symm⟩⟩
  · intro a0 a1 S x T h q S1 h1 S2 h2 S3 h3 S4 h4 S5 h5 S6 h6 S7 h7 S8 h8
    have up : ∀ {c : Nat} {U V : ex_S}, raP c → ex_fx (fun b _ => b = c) U V → ex_fx (fun c _ => raP c) U V := fun hc F => F.mono (fun a k z => by rw [show a = _ from z]; exact hc)
    have F0 := up (c := 42) (by unfold raP; omega) h.1
    have F1 := up (c := 43) (by unfold raP; omega) h1.1
    have F2 := up (c := 44) (by unfold raP; omega) h2.1
    have F3 := up (c := 45) (by unfold raP; omega) h3.1
    have F4 := up (c := 46) (by unfold raP; omega) h4.1
    have F5 := up (c := 47) (by unfold raP; omega) h5.1
    have F6 := up (c := 48) (by unfold raP; omega) h6.1
    have F7 := up (c := 49) (by unfold raP; omega) h7.1
    have F8 := up (c := 50) (by unfold raP; omega) h8.1
    refine ⟨((((((((F0.trans F1).trans F2).trans F3).trans F4).trans F5).trans F6).trans F7).trans F8), fun f t e0 e1 hf ht hne hB => ?_⟩
    obtain ⟨i, i1, i2, i3⟩ := h.2 f t e0 e1 hf ht hne hB
    rw [i2, show (600 : Int32) = Int32.ofNat 600 from rfl, n32_le (by omega) (by omega)] at q
    have : i = 600 := by omega
    subst this
    have g1 := h1.2 1 f t rfl e0 e1 (by omega) hf ht hne
    have g2 := h2.2 1 f t rfl e0 e1 (by omega) hf ht hne
    have g3 := h3.2 1 f t rfl e0 e1 (by omega) hf ht hne
    have g4 := h4.2 4 f t rfl e0 e1 (by omega) hf ht hne
    have g5 := h5.2 200 f t rfl e0 e1 (by omega) hf ht hne
    have g6 := h6.2 39 f t rfl e0 e1 (by omega) hf ht hne
    have g7 := h7.2 304 f t rfl e0 e1 (by omega) hf ht hne
    have g8 := h8.2 50 f t rfl e0 e1 (by omega) hf ht hne
    -- what each piece leaves alone
    have k0 : ∀ c, c ≠ 42 → T.1 c = S.1 c := fun c hc => funext fun j => h.1.1 c j hc
    have k1 : ∀ c, c ≠ 43 → S1.1 c = T.1 c := fun c hc => funext fun j => h1.1.1 c j hc
    have k2 : ∀ c, c ≠ 44 → S2.1 c = S1.1 c := fun c hc => funext fun j => h2.1.1 c j hc
    have k3 : ∀ c, c ≠ 45 → S3.1 c = S2.1 c := fun c hc => funext fun j => h3.1.1 c j hc
    have k4 : ∀ c, c ≠ 46 → S4.1 c = S3.1 c := fun c hc => funext fun j => h4.1.1 c j hc
    have k5 : ∀ c, c ≠ 47 → S5.1 c = S4.1 c := fun c hc => funext fun j => h5.1.1 c j hc
    have k6 : ∀ c, c ≠ 48 → S6.1 c = S5.1 c := fun c hc => funext fun j => h6.1.1 c j hc
    have k7 : ∀ c, c ≠ 49 → S7.1 c = S6.1 c := fun c hc => funext fun j => h7.1.1 c j hc
    have k8 : ∀ c, c ≠ 50 → S8.1 c = S7.1 c := fun c hc => funext fun j => h8.1.1 c j hc
    refine ⟨fun j => ?_, fun j => ?_, fun j => ?_, fun j => ?_, fun j => ?_, fun j => ?_, fun j => ?_, fun j => ?_, fun j => ?_⟩
    · rw [k8 42 (by decide), k7 42 (by decide), k6 42 (by decide), k5 42 (by decide), k4 42 (by decide), k3 42 (by decide), k2 42 (by decide), k1 42 (by decide)]; exact i3 j
    · rw [k8 43 (by decide), k7 43 (by decide), k6 43 (by decide), k5 43 (by decide), k4 43 (by decide), k3 43 (by decide), k2 43 (by decide), g1, k0 43 (by decide)]
    · rw [k8 44 (by decide), k7 44 (by decide), k6 44 (by decide), k5 44 (by decide), k4 44 (by decide), k3 44 (by decide), g2, k1 44 (by decide), k0 44 (by decide)]
    · rw [k8 45 (by decide), k7 45 (by decide), k6 45 (by decide), k5 45 (by decide), k4 45 (by decide), g3, k2 45 (by decide), k1 45 (by decide), k0 45 (by decide)]
    · rw [k8 46 (by decide), k7 46 (by decide), k6 46 (by decide), k5 46 (by decide), g4, k3 46 (by decide), k2 46 (by decide), k1 46 (by decide), k0 46 (by decide)]
    · rw [k8 47 (by decide), k7 47 (by decide), k6 47 (by decide), g5, k4 47 (by decide), k3 47 (by decide), k2 47 (by decide), k1 47 (by decide), k0 47 (by decide)]
    · rw [k8 48 (by decide), k7 48 (by decide), g6, k5 48 (by decide), k4 48 (by decide), k3 48 (by decide), k2 48 (by decide), k1 48 (by decide), k0 48 (by decide)]
    · rw [k8 49 (by decide), g7, k6 49 (by decide), k5 49 (by decide), k4 49 (by decide), k3 49 (by decide), k2 49 (by decide), k1 49 (by decide), k0 49 (by decide)]
    · rw [g8, k7 50 (by decide), k6 50 (by decide), k5 50 (by decide), k4 50 (by decide), k3 50 (by decide), k2 50 (by decide), k1 50 (by decide), k0 50 (by decide)]
  · intro a0 a1 S x T h q
    refine ⟨h.1.sx rfl, fun f t e0 e1 hf ht hne hB => ?_⟩
    obtain ⟨i, i1, i2, i3⟩ := h.2 f t e0 e1 hf ht hne hB
    rw [i2, show (600 : Int32) = Int32.ofNat 600 from rfl, n32_le (by omega) (by omega)] at q
    refine ⟨i + 1, by omega, by rw [i2]; exact n32_s i, fun j => ?_⟩
    have x1 : ((600 : Int32) * Int32.ofNat t + Int32.ofNat i).toNatClampNeg = 600 * t + i := ro_ix (w := 600) (by omega) ht (by omega)
    have x0 : ((600 : Int32) * Int32.ofNat f + Int32.ofNat i).toNatClampNeg = 600 * f + i := ro_ix (w := 600) (by omega) hf (by omega)
    rw [ex_sx_at, e0, e1, i2, x1, x0, i3, roi_src (by omega) hne, i8_id (hB _), roi_s]
    by_cases z : j = 600 * t + i
    · rw [if_pos ⟨rfl, z⟩, if_pos z]
    · rw [if_neg (fun y => z y.2), if_neg z]; exact i3 j
/-- image, again: the answer, what is copied -/
def riC (a : Int32) (S : ex_S) (v : Int32) (S' : ex_S) : Prop := (¬ (0 ≤ a ∧ a ≤ 2) → v = 0 ∧ S' = ex_sx S 41 0 0) ∧ (0 ≤ a ∧ a ≤ 2 → v = 1 ∧ ∃ S1, raC 0 (a + 1) (ex_sx S 41 0 0) S1 ∧ S' = ex_sx S1 71 a.toNatClampNeg 1)
theorem ec295 : es295 riC := by
  refine ev295 ec296 ?_ ?_
  · intro a S c S1 h1
    unfold vf174 at c
    rw [vf_0] at c
    have c := Classical.not_not.mp c
    exact ⟨fun z => absurd c z, fun _ => ⟨rfl, S1, h1, rfl⟩⟩
  · intro a S c
    unfold vf174 at c
    rw [vf_0] at c
    exact ⟨fun _ => ⟨rfl, rfl⟩, fun z => absurd z (fun w => c (fun y => y w))⟩
def rgC (a : Int32) (S : ex_S) (v : Int32) (S' : ex_S) : Prop := (¬ ((0 ≤ a ∧ a ≤ 2) ∧ ¬ S.1 71 a.toNatClampNeg = 0) → v = 0 ∧ S' = ex_sx S 41 0 0) ∧ ((0 ≤ a ∧ a ≤ 2) ∧ ¬ S.1 71 a.toNatClampNeg = 0 → v = 1 ∧ raC (a + 1) 0 (ex_sx S 41 0 0) S')
theorem ec298 : es298 rgC := by
  refine ev298 ec296 ?_ ?_ ?_
  · intro a S c
    unfold vf174 at c
    rw [vf_0] at c
    exact ⟨fun _ => ⟨rfl, rfl⟩, fun z => absurd z.1 c⟩
  · intro a S c c2 S1 h1
    unfold vf174 at c
    rw [vf_0] at c
    have c := Classical.not_not.mp c
    exact ⟨fun z => absurd ⟨c, c2⟩ z, fun _ => ⟨rfl, h1⟩⟩
  · intro a S c c2
    exact ⟨fun _ => ⟨rfl, rfl⟩, fun z => absurd z.2 c2⟩
