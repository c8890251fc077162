/-! a MEAL is made -/
def cfl (a : Option Nat) (a1 a2 a3 : Int32) (S S' : ex_S) : Prop := S'.2 = S.2 ∧ (∀ c k, a ≠ some c → S'.1 c k = S.1 c k) ∧ ∀ b lo hi, a = some b → a1 = Int32.ofNat lo → a2 = Int32.ofNat hi → lo ≤ hi → hi ≤ 1000000 → ∀ c k, S'.1 c k = if c = b ∧ lo ≤ k ∧ k < hi then a3 else S.1 c k
theorem ec49c : es49 cfl := by
  refine ev49 (I10 := fun a a1 a2 a3 S x T => T.2 = S.2 ∧ (∀ c k, a ≠ some c → T.1 c k = S.1 c k) ∧ ∀ b lo hi, a = some b → a1 = Int32.ofNat lo → a2 = Int32.ofNat hi → lo ≤ hi → hi ≤ 1000000 → ∃ i, lo ≤ i ∧ i ≤ hi ∧ x = Int32.ofNat i ∧ ∀ c k, T.1 c k = if c = b ∧ lo ≤ k ∧ k < i then a3 else S.1 c k) ec50 ?_ ?_ ?_
  · intro a a1 a2 a3 S b e S5 h
    rw [h]
    refine ⟨rfl, fun _ _ _ => rfl, fun b' lo hi e1 e2 e3 l1 l2 => ⟨lo, Nat.le_refl _, l1, e2, fun c k => ?_⟩⟩
    rw [if_neg (fun z => by omega)]
  · intro a a1 a2 a3 S x T I c
    refine ⟨I.1, I.2.1, fun b lo hi e1 e2 e3 l1 l2 c' k => ?_⟩
    obtain ⟨i, i1, i2, i3, i4⟩ := I.2.2 b lo hi e1 e2 e3 l1 l2
    rw [e3, i3, n32_le (by omega) (by omega)] at c
    have : i = hi := by omega
    subst this
    exact i4 c' k
  · intro a a1 a2 a3 S x T I c b8 e8
    refine ⟨I.1, fun c' k z => (ex_sx_ne (fun y => z (by rw [e8, y.1]))).trans (I.2.1 c' k z), fun b lo hi e1 e2 e3 l1 l2 => ?_⟩
    obtain ⟨i, i1, i2, i3, i4⟩ := I.2.2 b lo hi e1 e2 e3 l1 l2
    rw [e3, i3, n32_le (by omega) (by omega)] at c
    have eb : b8 = b := by rw [e1] at e8; cases e8; rfl
    subst eb
    refine ⟨i + 1, by omega, by omega, by rw [i3]; exact n32_s i, fun c' k => ?_⟩
    rw [i3, n32_tn (by omega), ex_sx_at, i4]
    by_cases q : c' = b8 ∧ k = i
    · rw [if_pos q, if_pos ⟨q.1, by omega, by omega⟩]
    · rw [if_neg q]
      by_cases w : c' = b8 ∧ lo ≤ k ∧ k < i
      · rw [if_pos w, if_pos ⟨w.1, w.2.1, by omega⟩]
      · rw [if_neg w, if_neg (fun z => w ⟨z.1, z.2.1, by
          have : ¬ k = i := fun y => q ⟨z.1, y⟩
          omega⟩)]
def c51 (t : Nat) (a0 : Int32) (S : ex_S) (v : Int32) (S' : ex_S) : Prop := S' = S ∧ ∀ b, S.2.2.1 t 2 = some b → v = if S.1 b ((a0 * 4).toNatClampNeg) = 2 then 1 else 0
theorem ec51c : es51 c51 := by
  refine ev51 ?_ ?_
  · intro t a0 S b e c
    refine ⟨rfl, fun b' e' => ?_⟩
    rw [e] at e'; cases e'
    rw [if_neg c]
  · intro t a0 S b e c
    refine ⟨rfl, fun b' e' => ?_⟩
    rw [e] at e'; cases e'
    rw [if_pos (Classical.not_not.mp c)]
def c52 (t : Nat) (a0 : Int32) (S : ex_S) (v : Int32) (S' : ex_S) : Prop := S' = S ∧ ∀ b, S.2.2.1 t 2 = some b → v = S.1 b (((a0 * 4) + 1).toNatClampNeg)
theorem ec52c : es52 c52 := by
  refine ev52 ?_
  intro t a0 S b e
  refine ⟨rfl, fun b' e' => ?_⟩
  rw [e] at e'; cases e'
  rfl
/-- who looks at a seat: bits of the first o -/
def lkb (g : Nat → Int32) (p : Nat) (who : Int32) : Nat → Int32
  | 0 => 0
  | o + 1 => if g (p + o) = who then lkb g p who o ||| (1 <<< (Int32.ofNat o &&& 31)) else lkb g p who o
def c53 (t : Nat) (a0 a1 : Int32) (S : ex_S) (v : Int32) (S' : ex_S) : Prop := S' = S ∧ ∀ b sn k, S.2.2.1 t 3 = some b → S.1 t 0 = Int32.ofNat sn → sn ≤ 6 → a1 = Int32.ofNat k → k ≤ 60 → v = lkb (S.1 b) (k * sn) a0 sn
theorem c53_ix {k sn o : Nat} (hk : k ≤ 60) (hs : sn ≤ 6) (ho : o ≤ 6) : ((Int32.ofNat k * Int32.ofNat sn) + Int32.ofNat o).toNatClampNeg = k * sn + o := by
  have := Nat.mul_le_mul hk hs
  rw [← Int32.ofNat_mul, n32_add, n32_tn (by omega)]
theorem ec53c : es53 c53 := by
  refine ev53 (I5 := fun t a0 a1 S x3 x4 T => T = S ∧ ∀ b sn k, S.2.2.1 t 3 = some b → S.1 t 0 = Int32.ofNat sn → sn ≤ 6 → a1 = Int32.ofNat k → k ≤ 60 → ∃ o, o ≤ sn ∧ x4 = Int32.ofNat o ∧ x3 = lkb (S.1 b) (k * sn) a0 o) ?_ ?_ ?_ ?_
  · intro t a0 a1 S
    exact ⟨rfl, fun b sn k e1 e2 l1 e3 l2 => ⟨0, Nat.zero_le _, rfl, rfl⟩⟩
  · intro t a0 a1 S x3 x4 T I c
    obtain ⟨eT, I⟩ := I
    subst eT
    refine ⟨rfl, fun b sn k e1 e2 l1 e3 l2 => ?_⟩
    obtain ⟨o, o1, o2, o3⟩ := I b sn k e1 e2 l1 e3 l2
    rw [e2, o2, n32_le (by omega) (by omega)] at c
    have : o = sn := by omega
    subst this
    exact o3
  · intro t a0 a1 S x3 x4 T I c b2 eb c2
    obtain ⟨eT, I⟩ := I
    subst eT
    refine ⟨rfl, fun b sn k e1 e2 l1 e3 l2 => ?_⟩
    obtain ⟨o, o1, o2, o3⟩ := I b sn k e1 e2 l1 e3 l2
    rw [e2, o2, n32_le (by omega) (by omega)] at c
    rw [e1] at eb; cases eb
    refine ⟨o + 1, by omega, by rw [o2]; exact n32_s o, ?_⟩
    rw [e3, e2, o2, c53_ix l2 l1 (by omega)] at c2
    unfold lkb
    rw [if_neg c2]; exact o3
  · intro t a0 a1 S x3 x4 T I c b2 eb c2
    obtain ⟨eT, I⟩ := I
    subst eT
    refine ⟨rfl, fun b sn k e1 e2 l1 e3 l2 => ?_⟩
    obtain ⟨o, o1, o2, o3⟩ := I b sn k e1 e2 l1 e3 l2
    rw [e2, o2, n32_le (by omega) (by omega)] at c
    rw [e1] at eb; cases eb
    refine ⟨o + 1, by omega, by rw [o2]; exact n32_s o, ?_⟩
    rw [e3, e2, o2, c53_ix l2 l1 (by omega)] at c2
    unfold lkb
    rw [if_pos (Classical.not_not.mp c2), o3, o2]
/-- the table of looks behind k deeds, as it is written: copied row by row -/
def gcp (g : Nat → Int32) (sn k j : Nat) : Int32 := if (k + 1) * sn ≤ j ∧ j < (k + 1) * sn + sn then g (k * sn + (j - (k + 1) * sn)) else g j
def graw (D : Nat → Int32) (sn : Nat) : Nat → Nat → Int32
  | 0, j => if j < sn then -1 else 0
  | k + 1, j => if D (4 * k) = 2 then gcp (graw D sn k) sn k j else if j = (Int32.ofNat ((k + 1) * sn) + D (4 * k + 1)).toNatClampNeg then D (4 * k + 2) else gcp (graw D sn k) sn k j
/-- what each deed's sign was seen by -/
def sraw (D : Nat → Int32) (sn : Nat) (k : Nat) : Int32 := if D (4 * k) = 2 then lkb (gcp (graw D sn k) sn k) (k * sn) (D (4 * k + 1)) sn else 0
def mMq (t : Nat) (S : ex_S) : Prop := t + 1 = S.2.2.2.2 ∧ 72 ≤ t ∧ S.2.2.2.1 26 = 200
def mMb (t : Nat) (S T : ex_S) : Prop := lowEq t S T ∧ T.2.2.2.2 = t + 4 ∧ (T.2.2.1 t 2 = some (t + 1) ∧ T.2.2.1 t 3 = some (t + 2) ∧ T.2.2.1 t 4 = some (t + 3)) ∧ T.1 t 0 = S.1 25 8 ∧ T.1 t 1 = S.1 25 4 ∧ ∀ dc, S.1 25 4 = Int32.ofNat dc → dc ≤ 50 → ∀ j, j < 4 * dc → T.1 (t + 1) j = S.1 26 j
theorem mMb.ch {t : Nat} {S T U : ex_S} (h : mMb t S T) (e2 : U.2 = T.2) (e1 : ∀ c k, c ≠ t + 2 → c ≠ t + 3 → U.1 c k = T.1 c k) : mMb t S U := by
  obtain ⟨a1, a2, a3, a4, a5, a6⟩ := h
  exact ⟨fun a ha => ⟨fun k => (e1 a k (by omega) (by omega)).trans ((a1 a ha).1 k), fun k => by rw [e2]; exact (a1 a ha).2.1 k, fun k => by rw [e2]; exact (a1 a ha).2.2.1 k, by rw [e2]; exact (a1 a ha).2.2.2⟩, by rw [e2]; exact a2, by rw [e2]; exact a3, (e1 _ _ (by omega) (by omega)).trans a4, (e1 _ _ (by omega) (by omega)).trans a5, fun dc e h j hj => (e1 _ _ (by omega) (by omega)).trans (a6 dc e h j hj)⟩
/-- k deeds are done -/
def mMk (t dc sn k : Nat) (S T : ex_S) : Prop := k ≤ dc ∧ (∀ j, T.1 (t + 2) j = graw (S.1 26) sn k j) ∧ ∀ j, T.1 (t + 3) j = if j < k then sraw (S.1 26) sn j else 0
def mMI (t : Nat) (S : ex_S) (x : Int32) (T : ex_S) : Prop := mMq t S → mMb t S T ∧ ∃ k, x = Int32.ofNat k ∧ ∀ dc sn, S.1 25 4 = Int32.ofNat dc → dc ≤ 50 → S.1 25 8 = Int32.ofNat sn → sn ≤ 6 → mMk t dc sn k S T
def mM (t : Nat) (S S' : ex_S) : Prop := mMq t S → mMb t S S' ∧ ∀ dc sn, S.1 25 4 = Int32.ofNat dc → dc ≤ 50 → S.1 25 8 = Int32.ofNat sn → sn ≤ 6 → mMk t dc sn dc S S'
theorem n32_mul (a b : Nat) : Int32.ofNat a * Int32.ofNat b = Int32.ofNat (a * b) := (Int32.ofNat_mul a b).symm
theorem ec48c : es48 mM := by
  refine ev48 (I79 := mMI) ec45c ec49c ec51c ec52c ec53c ?_ ?_ ?_ ?_
  · intro t S r2 S3 h3 S7 h7 q
    obtain ⟨q1, q2, q3⟩ := q
    obtain ⟨c1, c2, c3, c4⟩ := h3
    rw [sx2, sx2] at c1 c2 c3 c4
    rw [← q1] at c1 c2 c3 c4
    rw [ex_sx_ne (by omega)] at c4
    have z0 : S3.1 t 0 = S.1 25 8 := ((c3 t (by omega)).1 0).trans ((ex_sx_ne (by omega)).trans ex_sx_eq)
    have z1 : S3.1 t 1 = S.1 25 4 := ((c3 t (by omega)).1 1).trans (ex_sx_eq.trans (ex_sx_ne (by omega)))
    have L3 : lowEq t S S3 := (((lowEq.refl t S).sx (Nat.le_refl _)).sx (Nat.le_refl _)).trans (c3.mono (by omega))
    have D3 : ∀ dc, S.1 25 4 = Int32.ofNat dc → dc ≤ 50 → ∀ j, j < 4 * dc → S3.1 (t + 1) j = S.1 26 j := fun dc e hd j hj => by
      refine (c4 (4 * dc) (by rw [e]; exact n32_m4 dc) ?_ ?_ (by omega) j hj).trans ((ex_sx_ne (by omega)).trans (ex_sx_ne (by omega)))
      · rw [q3]; omega
      · rw [q3]; omega
    -- the two tables
    generalize en1 : (((S3.1 t 1) + 1) * (S3.1 t 0)).toNatClampNeg = n1 at h7
    have m1 : (ex_new (ex_sz S3 t 2 r2) n1).1 t 1 = S3.1 t 1 := nw1 (by show ¬ t = S3.2.2.2.2; omega) _
    rw [m1] at h7
    generalize en2 : (S3.1 t 1).toNatClampNeg = n2 at h7
    have tp : (ex_new (ex_sz S3 t 2 r2) n1).2.2.2.2 = t + 3 := by show S3.2.2.2.2 + 1 = t + 3; omega
    have tp3 : S3.2.2.2.2 = t + 2 := by omega
    rw [tp, tp3] at h7
    have tq : (ex_sz (ex_new (ex_sz S3 t 2 r2) n1) t 3 (some (t + 2))).2.2.2.2 = t + 3 := tp
    have g3 : (ex_new (ex_sz (ex_new (ex_sz S3 t 2 r2) n1) t 3 (some (t + 2))) n2).2.2.1 t 3 = some (t + 2) := by
      rw [nw3 (by omega), sz_eq]
    have g0 : (ex_new (ex_sz (ex_new (ex_sz S3 t 2 r2) n1) t 3 (some (t + 2))) n2).1 t 0 = S.1 25 8 := by
      rw [nw1 (by omega)]
      show (ex_new (ex_sz S3 t 2 r2) n1).1 t 0 = _
      rw [nw1 (by show ¬ t = S3.2.2.2.2; omega)]; exact z0
    rw [g3, g0] at h7
    generalize eV : ex_sz (ex_new (ex_sz (ex_new (ex_sz S3 t 2 r2) n1) t 3 (some (t + 2))) n2) t 4 (some (t + 3)) = V at h7
    have LV : lowEq t S V := by
      subst eV
      exact ((((L3.sz (Nat.le_refl _)).new (by show t ≤ S3.2.2.2.2; omega)).sz (Nat.le_refl _)).new (by omega)).sz (Nat.le_refl _)
    have Vt : V.2.2.2.2 = t + 4 := by
      subst eV
      show (ex_sz (ex_new (ex_sz S3 t 2 r2) n1) t 3 (some (t + 2))).2.2.2.2 + 1 = t + 4
      omega
    have Vx : ∀ c k, c < t + 2 → V.1 c k = S3.1 c k := fun c k hc => by
      subst eV
      show (ex_new (ex_sz (ex_new (ex_sz S3 t 2 r2) n1) t 3 (some (t + 2))) n2).1 c k = _
      rw [nw1 (by omega)]
      exact nw1 (n := n1) (by show ¬ c = S3.2.2.2.2; omega) k
    have V2 : ∀ k, V.1 (t + 2) k = 0 := fun k => by
      subst eV
      show (ex_new (ex_sz (ex_new (ex_sz S3 t 2 r2) n1) t 3 (some (t + 2))) n2).1 (t + 2) k = _
      rw [nw1 (by omega)]
      exact nw1e (n := n1) (by show t + 2 = S3.2.2.2.2; omega) k
    have V3 : ∀ k, V.1 (t + 3) k = 0 := fun k => by
      subst eV
      exact nw1e (n := n2) (by omega) k
    have Vz : V.2.2.1 t 2 = some (t + 1) ∧ V.2.2.1 t 3 = some (t + 2) ∧ V.2.2.1 t 4 = some (t + 3) := by
      subst eV
      refine ⟨?_, ?_, sz_eq⟩
      · rw [sz_ne (by omega), nw3 (by omega), sz_ne (by omega), nw3 (by show ¬ t = S3.2.2.2.2; omega), sz_eq]; exact c1
      · rw [sz_ne (by omega)]; exact g3
    clear eV
    have B : mMb t S V := ⟨LV, Vt, Vz, (Vx t 0 (by omega)).trans z0, (Vx t 1 (by omega)).trans z1, fun dc e hd j hj => (Vx _ _ (by omega)).trans (D3 dc e hd j hj)⟩
    -- all look nowhere
    obtain ⟨f1, f3, f2⟩ := h7
    have B7 : mMb t S S7 := B.ch f1 (fun c k h1 h2 => f3 c k (fun z => h1 (Option.some.inj z).symm))
    by_cases hs : ∃ sn, S.1 25 8 = Int32.ofNat sn ∧ sn ≤ 6
    · obtain ⟨sn, es, ls⟩ := hs
      have f := f2 (t + 2) 0 sn rfl rfl es (Nat.zero_le _) (by omega)
      refine ⟨B7, 0, rfl, fun dc sn' ed ld es' ls' => ⟨Nat.zero_le _, fun j => ?_, fun j => ?_⟩⟩
      · have : sn = sn' := (n32_eq (by omega) (by omega)).mp (es.symm.trans es')
        subst this
        rw [f]
        show _ = if j < sn then -1 else 0
        by_cases w : j < sn
        · rw [if_pos ⟨rfl, Nat.zero_le _, w⟩, if_pos w]
        · rw [if_neg (fun z => w z.2.2), if_neg w]; exact V2 j
      · rw [f, if_neg (by omega), if_neg (by omega)]; exact V3 j
    · exact ⟨B7, 0, rfl, fun dc sn _ _ es ls => absurd ⟨sn, es, ls⟩ hs⟩
  · intro t S x T I c q
    obtain ⟨m, k, k1, k2⟩ := I q
    refine ⟨m, fun dc sn ed ld es ls => ?_⟩
    have K := k2 dc sn ed ld es ls
    rw [m.2.2.2.2.1, ed, k1, n32_le (by omega) (by have := K.1; omega)] at c
    have : k = dc := by have := K.1; omega
    subst this
    exact K
  · intro t S x T I c b10 e10 r13 S14 h14 c13 r18 S19 h19 b21 e21 b23 e23 q
    obtain ⟨m, k, k1, k2⟩ := I q
    rw [m.2.2.1.2.1] at e10; cases e10
    generalize eA : ex_cp T (t + 2) ((x * (T.1 t 0)).toNatClampNeg) (t + 2) (((x + 1) * (T.1 t 0)).toNatClampNeg) ((T.1 t 0).toNatClampNeg) = A at h14
    have A2 : A.2 = T.2 := by subst eA; rfl
    have A1 : ∀ c j, c ≠ t + 2 → A.1 c j = T.1 c j := fun c j hc => by
      subst eA
      rw [ex_cp_at, if_neg (fun z => hc z.1)]
    have G : ∀ dc sn, S.1 25 4 = Int32.ofNat dc → dc ≤ 50 → S.1 25 8 = Int32.ofNat sn → sn ≤ 6 → k ≤ dc → (k + 1) * sn ≤ 306 ∧ k * sn ≤ 306 ∧ ((∀ j, T.1 (t + 2) j = graw (S.1 26) sn k j) → ∀ j, A.1 (t + 2) j = gcp (graw (S.1 26) sn k) sn k j) := fun dc sn ed ld es ls kd => by
      have p1 : (k + 1) * sn ≤ 51 * 6 := Nat.mul_le_mul (by omega) ls
      have p2 : k * sn ≤ 51 * 6 := Nat.mul_le_mul (by omega) ls
      refine ⟨p1, p2, fun hg j => ?_⟩
      have t0 : T.1 t 0 = Int32.ofNat sn := m.2.2.2.1.trans es
      have i1 : (x * T.1 t 0).toNatClampNeg = k * sn := by rw [k1, t0, n32_mul, n32_tn (by omega)]
      have i2 : ((x + 1) * T.1 t 0).toNatClampNeg = (k + 1) * sn := by rw [k1, t0, n32_s, n32_mul, n32_tn (by omega)]
      have i3 : (T.1 t 0).toNatClampNeg = sn := by rw [t0, n32_tn (by omega)]
      subst eA
      rw [ex_cp_at, i1, i2, i3, hg, hg]
      unfold gcp
      by_cases w : (k + 1) * sn ≤ j ∧ j < (k + 1) * sn + sn
      · rw [if_pos ⟨rfl, w⟩, if_pos w]
      · rw [if_neg (fun z => w z.2), if_neg w]
    clear eA
    have x4 : k ≤ 50 → (x * 4).toNatClampNeg = 4 * k ∧ ((x * 4) + 1).toNatClampNeg = 4 * k + 1 ∧ ((x * 4) + 2).toNatClampNeg = 4 * k + 2 := fun hk => by
      refine ⟨?_, ?_, ?_⟩
      · rw [k1, n32_m4, n32_tn (by omega)]
      · rw [k1, n32_m4, n32_s, n32_tn (by omega)]
      · rw [k1, n32_m4, show (2 : Int32) = Int32.ofNat 2 from rfl, n32_add, n32_tn (by omega)]
    have Z2 : A.2.2.1 t 2 = some (t + 1) := by rw [A2]; exact m.2.2.1.1
    have Z3 : A.2.2.1 t 3 = some (t + 2) := by rw [A2]; exact m.2.2.1.2.1
    have Z4 : A.2.2.1 t 4 = some (t + 3) := by rw [A2]; exact m.2.2.1.2.2
    have D : ∀ dc, S.1 25 4 = Int32.ofNat dc → dc ≤ 50 → ∀ j, j < 4 * dc → A.1 (t + 1) j = S.1 26 j := fun dc ed ld j hj => (A1 _ _ (by omega)).trans (m.2.2.2.2.2 dc ed ld j hj)
    have A0 : A.1 t 0 = S.1 25 8 := (A1 _ _ (by omega)).trans m.2.2.2.1
    obtain ⟨w14, v14⟩ := h14
    subst w14
    have v14 := v14 _ Z2
    obtain ⟨w19, v19⟩ := h19
    subst w19
    have v19 := v19 _ Z2
    rw [Z2] at e21; cases e21
    rw [Z3] at e23; cases e23
    refine ⟨m.ch A2 (fun c j h1 h2 => (ex_sx_ne (fun z => h1 z.1)).trans (A1 c j h1)), k + 1, by rw [k1]; exact n32_s k, fun dc sn ed ld es ls => ?_⟩
    have K := k2 dc sn ed ld es ls
    rw [m.2.2.2.2.1, ed, k1, n32_le (by omega) (by have := K.1; omega)] at c
    have kd : k < dc := by omega
    obtain ⟨p1, p2, G⟩ := G dc sn ed ld es ls K.1
    have G := G K.2.1
    obtain ⟨y0, y1, y2⟩ := x4 (by omega)
    have no : ¬ S.1 26 (4 * k) = 2 := fun z => by
      rw [y0, D dc ed ld _ (by omega), if_pos z] at v14
      rw [v14] at c13
      exact absurd c13 (by decide)
    rw [y1, D dc ed ld _ (by omega)] at v19
    refine ⟨kd, fun j => ?_, fun j => ?_⟩
    · rw [y2, D dc ed ld _ (by omega), A0, es, k1, n32_s, n32_mul, v19, ex_sx_at, G]
      show _ = if S.1 26 (4 * k) = 2 then _ else _
      rw [if_neg no]
      by_cases w : j = (Int32.ofNat ((k + 1) * sn) + S.1 26 (4 * k + 1)).toNatClampNeg
      · rw [if_pos ⟨rfl, w⟩, if_pos w]
      · rw [if_neg (fun z => w z.2), if_neg w]
    · rw [ex_sx_ne (by omega), A1 _ _ (by omega), K.2.2]
      by_cases w : j < k
      · rw [if_pos w, if_pos (by omega)]
      · rw [if_neg w]
        by_cases w2 : j < k + 1
        · have : j = k := by omega
          subst this
          rw [if_pos w2]
          unfold sraw
          rw [if_neg no]
        · rw [if_neg w2]
  · intro t S x T I c b10 e10 r13 S14 h14 c13 r26 S27 h27 r30 S31 h31 b33 e33 q
    obtain ⟨m, k, k1, k2⟩ := I q
    rw [m.2.2.1.2.1] at e10; cases e10
    generalize eA : ex_cp T (t + 2) ((x * (T.1 t 0)).toNatClampNeg) (t + 2) (((x + 1) * (T.1 t 0)).toNatClampNeg) ((T.1 t 0).toNatClampNeg) = A at h14
    have A2 : A.2 = T.2 := by subst eA; rfl
    have A1 : ∀ c j, c ≠ t + 2 → A.1 c j = T.1 c j := fun c j hc => by
      subst eA
      rw [ex_cp_at, if_neg (fun z => hc z.1)]
    have G : ∀ dc sn, S.1 25 4 = Int32.ofNat dc → dc ≤ 50 → S.1 25 8 = Int32.ofNat sn → sn ≤ 6 → k ≤ dc → (k + 1) * sn ≤ 306 ∧ k * sn ≤ 306 ∧ ((∀ j, T.1 (t + 2) j = graw (S.1 26) sn k j) → ∀ j, A.1 (t + 2) j = gcp (graw (S.1 26) sn k) sn k j) := fun dc sn ed ld es ls kd => by
      have p1 : (k + 1) * sn ≤ 51 * 6 := Nat.mul_le_mul (by omega) ls
      have p2 : k * sn ≤ 51 * 6 := Nat.mul_le_mul (by omega) ls
      refine ⟨p1, p2, fun hg j => ?_⟩
      have t0 : T.1 t 0 = Int32.ofNat sn := m.2.2.2.1.trans es
      have i1 : (x * T.1 t 0).toNatClampNeg = k * sn := by rw [k1, t0, n32_mul, n32_tn (by omega)]
      have i2 : ((x + 1) * T.1 t 0).toNatClampNeg = (k + 1) * sn := by rw [k1, t0, n32_s, n32_mul, n32_tn (by omega)]
      have i3 : (T.1 t 0).toNatClampNeg = sn := by rw [t0, n32_tn (by omega)]
      subst eA
      rw [ex_cp_at, i1, i2, i3, hg, hg]
      unfold gcp
      by_cases w : (k + 1) * sn ≤ j ∧ j < (k + 1) * sn + sn
      · rw [if_pos ⟨rfl, w⟩, if_pos w]
      · rw [if_neg (fun z => w z.2), if_neg w]
    clear eA
    have x4 : k ≤ 50 → (x * 4).toNatClampNeg = 4 * k ∧ ((x * 4) + 1).toNatClampNeg = 4 * k + 1 ∧ ((x * 4) + 2).toNatClampNeg = 4 * k + 2 := fun hk => by
      refine ⟨?_, ?_, ?_⟩
      · rw [k1, n32_m4, n32_tn (by omega)]
      · rw [k1, n32_m4, n32_s, n32_tn (by omega)]
      · rw [k1, n32_m4, show (2 : Int32) = Int32.ofNat 2 from rfl, n32_add, n32_tn (by omega)]
    have Z2 : A.2.2.1 t 2 = some (t + 1) := by rw [A2]; exact m.2.2.1.1
    have Z3 : A.2.2.1 t 3 = some (t + 2) := by rw [A2]; exact m.2.2.1.2.1
    have Z4 : A.2.2.1 t 4 = some (t + 3) := by rw [A2]; exact m.2.2.1.2.2
    have D : ∀ dc, S.1 25 4 = Int32.ofNat dc → dc ≤ 50 → ∀ j, j < 4 * dc → A.1 (t + 1) j = S.1 26 j := fun dc ed ld j hj => (A1 _ _ (by omega)).trans (m.2.2.2.2.2 dc ed ld j hj)
    have A0 : A.1 t 0 = S.1 25 8 := (A1 _ _ (by omega)).trans m.2.2.2.1
    obtain ⟨w14, v14⟩ := h14
    subst w14
    have v14 := v14 _ Z2
    obtain ⟨w27, v27⟩ := h27
    subst w27
    have v27 := v27 _ Z2
    obtain ⟨w31, v31⟩ := h31
    subst w31
    rw [Z4] at e33; cases e33
    refine ⟨m.ch A2 (fun c j h1 h2 => (ex_sx_ne (fun z => h2 z.1)).trans (A1 c j h1)), k + 1, by rw [k1]; exact n32_s k, fun dc sn ed ld es ls => ?_⟩
    have K := k2 dc sn ed ld es ls
    rw [m.2.2.2.2.1, ed, k1, n32_le (by omega) (by have := K.1; omega)] at c
    have kd : k < dc := by omega
    obtain ⟨p1, p2, G⟩ := G dc sn ed ld es ls K.1
    have G := G K.2.1
    obtain ⟨y0, y1, y2⟩ := x4 (by omega)
    have yes : S.1 26 (4 * k) = 2 := Classical.byContradiction (fun z => by
      rw [y0, D dc ed ld _ (by omega), if_neg z] at v14
      exact c13 v14)
    rw [y1, D dc ed ld _ (by omega)] at v27
    have v31 := v31 _ sn k Z3 (A0.trans es) ls k1 (by omega)
    refine ⟨kd, fun j => ?_, fun j => ?_⟩
    · rw [ex_sx_ne (by omega), G]
      show _ = if S.1 26 (4 * k) = 2 then _ else _
      rw [if_pos yes]
    · rw [k1, n32_tn (by omega), ex_sx_at, A1 _ _ (by omega), K.2.2]
      by_cases w : j = k
      · subst w
        rw [if_pos ⟨rfl, rfl⟩, if_pos (by omega), v31, v27]
        unfold sraw
        rw [if_pos yes]
        exact congrArg (fun f => lkb f (j * sn) (S.1 26 (4 * j + 1)) sn) (funext G)
      · rw [if_neg (fun z => w z.2)]
        by_cases w2 : j < k
        · rw [if_pos w2, if_pos (by omega)]
        · rw [if_neg w2, if_neg (by omega)]
