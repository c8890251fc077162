/-! TOKENS: the pure words of them, and what both sides' steps do -/
theorem n32_i {i : Nat} (h : i < 2147483648) : (Int32.ofNat i).toInt = i := Int32.toInt_ofNat_of_lt h
theorem n32_le {i j : Nat} (hi : i < 2147483648) (hj : j < 2147483648) : Int32.ofNat i ≤ Int32.ofNat j ↔ i ≤ j := by
  rw [Int32.le_iff_toInt_le, n32_i hi, n32_i hj]; omega
theorem n32_lt {i j : Nat} (hi : i < 2147483648) (hj : j < 2147483648) : Int32.ofNat i < Int32.ofNat j ↔ i < j := by
  rw [Int32.lt_iff_toInt_lt, n32_i hi, n32_i hj]; omega
theorem n32_eq {i j : Nat} (hi : i < 2147483648) (hj : j < 2147483648) : Int32.ofNat i = Int32.ofNat j ↔ i = j := by
  rw [← Int32.toInt_inj, n32_i hi, n32_i hj]; omega
theorem n32_tn {i : Nat} (hi : i < 2147483648) : (Int32.ofNat i).toNatClampNeg = i := by
  show (Int32.ofNat i).toInt.toNat = i
  rw [n32_i hi]; rfl
theorem n32_s (i : Nat) : Int32.ofNat i + 1 = Int32.ofNat (i + 1) := (Int32.ofNat_add i 1).symm
theorem n32_sub {i j : Nat} (h : j ≤ i) : Int32.ofNat i - Int32.ofNat j = Int32.ofNat (i - j) := (Int32.ofNat_sub i j h).symm
theorem n32_add (i j : Nat) : Int32.ofNat i + Int32.ofNat j = Int32.ofNat (i + j) := (Int32.ofNat_add i j).symm
/-- numbers of a view but those of P stay -/
def ex_fx (P : Nat → Nat → Prop) (S S' : ex_S) : Prop := (∀ a k, ¬ P a k → S'.1 a k = S.1 a k) ∧ S'.2 = S.2
theorem ex_fx.refl (P : Nat → Nat → Prop) (S : ex_S) : ex_fx P S S := ⟨fun _ _ _ => rfl, rfl⟩
theorem ex_fx.sx {P : Nat → Nat → Prop} {S T : ex_S} {a k : Nat} {v : Int32} (h : ex_fx P S T) (hP : P a k) : ex_fx P S (ex_sx T a k v) := by
  refine ⟨fun b j hb => ?_, h.2⟩
  show (if b = a ∧ j = k then v else T.1 b j) = _
  rw [if_neg (fun z => hb (by rw [z.1, z.2]; exact hP))]; exact h.1 b j hb
theorem ex_fx.trans {P : Nat → Nat → Prop} {S T U : ex_S} (h : ex_fx P S T) (g : ex_fx P T U) : ex_fx P S U := ⟨fun a k hk => (g.1 a k hk).trans (h.1 a k hk), g.2.trans h.2⟩
theorem ex_fx.mono {P P' : Nat → Nat → Prop} {S T : ex_S} (h : ex_fx P S T) (hP : ∀ a k, P a k → P' a k) : ex_fx P' S T := ⟨fun a k hk => h.1 a k (fun z => hk (hP a k z)), h.2⟩
theorem ex_sx_at (S : ex_S) (a k b j : Nat) (v : Int32) : (ex_sx S a k v).1 b j = if b = a ∧ j = k then v else S.1 b j := rfl
theorem ex_sx_ne {S : ex_S} {a k b j : Nat} {v : Int32} (h : ¬ (b = a ∧ j = k)) : (ex_sx S a k v).1 b j = S.1 b j := if_neg h
theorem ex_sx_eq {S : ex_S} {a k : Nat} {v : Int32} : (ex_sx S a k v).1 a k = v := if_pos ⟨rfl, rfl⟩
/-- how far a row of like bytes goes -/
def tk_rf (p : Int32 → Bool) (T : Nat → Int32) (n : Nat) : Nat → Nat → Nat
  | 0, i => i
  | k + 1, i => if i < n ∧ p (T i) = true then tk_rf p T n k (i + 1) else i
def tk_r (p : Int32 → Bool) (T : Nat → Int32) (n i : Nat) : Nat := tk_rf p T n (n - i) i
section TKR
variable {p : Int32 → Bool} {T : Nat → Int32} {n i : Nat}
theorem tk_ry (h1 : i < n) (h2 : p (T i) = true) : tk_r p T n i = tk_r p T n (i + 1) := by
  unfold tk_r
  obtain ⟨k, hk⟩ : ∃ k, n - i = k + 1 := ⟨n - i - 1, by omega⟩
  rw [hk, show n - (i + 1) = k by omega]
  show (if i < n ∧ p (T i) = true then tk_rf p T n k (i + 1) else i) = _
  rw [if_pos ⟨h1, h2⟩]
theorem tk_rn (h : ¬ (i < n ∧ p (T i) = true)) : tk_r p T n i = i := by
  unfold tk_r
  cases n - i with
  | zero => rfl
  | succ k => exact if_neg h
theorem tk_rf_ge (k i : Nat) : i ≤ tk_rf p T n k i := by
  induction k generalizing i with
  | zero => exact Nat.le_refl _
  | succ k ih =>
    show i ≤ (if i < n ∧ p (T i) = true then tk_rf p T n k (i + 1) else i)
    split
    · exact Nat.le_trans (Nat.le_succ i) (ih (i + 1))
    · exact Nat.le_refl _
theorem tk_rf_le (k i : Nat) (h : i ≤ n) : tk_rf p T n k i ≤ n := by
  induction k generalizing i with
  | zero => exact h
  | succ k ih =>
    show (if i < n ∧ p (T i) = true then tk_rf p T n k (i + 1) else i) ≤ n
    split
    · rename_i w; exact ih (i + 1) w.1
    · exact h
theorem tk_r_ge : i ≤ tk_r p T n i := tk_rf_ge _ _
theorem tk_r_le (h : i ≤ n) : tk_r p T n i ≤ n := tk_rf_le _ _ h
theorem tk_r_all {j : Nat} (h1 : i ≤ j) (h2 : j < tk_r p T n i) : p (T j) = true := by
  generalize hm : j - i = m
  induction m generalizing i with
  | zero =>
    have : j = i := by omega
    subst this
    apply Classical.byContradiction
    intro hc
    rw [tk_rn (fun z => hc z.2)] at h2
    omega
  | succ m ih =>
    by_cases hc : i < n ∧ p (T i) = true
    · rw [tk_ry hc.1 hc.2] at h2
      exact ih (by omega) h2 (by omega)
    · rw [tk_rn hc] at h2; omega
theorem tk_r_lt (h1 : i < n) (h2 : p (T i) = true) : i < tk_r p T n i := by
  rw [tk_ry h1 h2]; exact tk_r_ge
end TKR
def tk_bl (x : Int32) : Bool := decide (x = 10 ∨ x = 32)
def tk_le (x : Int32) : Bool := decide (97 ≤ x ∧ x ≤ 122)
def tk_di (x : Int32) : Bool := decide (48 ≤ x ∧ x ≤ 57)
def vf17 (x : Int32) : Int32 := if tk_bl x = true then 1 else 0
def vf18 (x : Int32) : Int32 := if tk_le x = true then 1 else 0
def vf19 (x : Int32) : Int32 := if tk_di x = true then 1 else 0
def vf174 (v lo hi : Int32) : Int32 := if lo ≤ v ∧ v ≤ hi then 1 else 0
def vf176 (s : Int32) : Int32 := if s = 1 then 3 else 2
def vf180 (S : ex_S) : Int32 := if S.1 41 11 ≤ S.1 41 10 then -1 else S.1 42 ((S.1 41 10).toNatClampNeg) &&& 255
theorem vf_0 {c : Prop} [Decidable c] : ((if c then 1 else 0 : Int32) = 0) ↔ ¬ c := by
  by_cases h : c
  · rw [if_pos h]; exact ⟨fun z => absurd z (by decide), fun z => absurd h z⟩
  · rw [if_neg h]; exact ⟨fun _ => h, fun _ => rfl⟩
/-- the token behind b: where it begins, what it is (0 the end, 1 a word, 2 a NUMBER, 3 a stop, 4 none), where it ends, its number -/
def tk_s (T : Nat → Int32) (n b : Nat) : Nat := tk_r tk_bl T n b
def tk_k (T : Nat → Int32) (n b : Nat) : Nat := if tk_s T n b < n then (if tk_le (T (tk_s T n b)) = true then 1 else if tk_di (T (tk_s T n b)) = true then (if tk_r tk_di T n (tk_s T n b) ≤ tk_s T n b + 2 then 2 else 4) else if T (tk_s T n b) = 59 then 3 else 4) else 0
def tk_e (T : Nat → Int32) (n b : Nat) : Nat := if tk_s T n b < n then (if tk_le (T (tk_s T n b)) = true then tk_r tk_le T n (tk_s T n b) else if tk_di (T (tk_s T n b)) = true then tk_r tk_di T n (tk_s T n b) else tk_s T n b + 1) else tk_s T n b
def tk_dv (T : Nat → Int32) (s i : Nat) : Int32 := if i = s then 0 else if i = s + 1 then 0 * 10 + T s - 48 else (0 * 10 + T s - 48) * 10 + T (s + 1) - 48
def tk_v (T : Nat → Int32) (n b : Nat) : Int32 := tk_dv T (tk_s T n b) (tk_r tk_di T n (tk_s T n b))
def tk_pf (T : Nat → Int32) (s : Nat) : Nat → Int64
  | 0 => 0
  | k + 1 => (tk_pf T s k <<< ((8 : Int32).toInt64 &&& 63)) ||| (T (s + k)).toInt64
def tk_p (T : Nat → Int32) (n b : Nat) : Int64 := if tk_r tk_le T n (tk_s T n b) ≤ tk_s T n b + 8 then tk_pf T (tk_s T n b) (tk_r tk_le T n (tk_s T n b) - tk_s T n b) else 0
def tk_rk (k : Nat) : Int32 := if k = 0 then 0 else if k = 1 then 2 else if k = 2 then 3 else if k = 3 then 4 else 1
section TKF
variable {T : Nat → Int32} {n b : Nat}
theorem tk_s_ge : b ≤ tk_s T n b := tk_r_ge
theorem tk_s_le (h : b ≤ n) : tk_s T n b ≤ n := tk_r_le h
theorem tk_e_ge : tk_s T n b ≤ tk_e T n b := by
  unfold tk_e
  split
  · split
    · exact tk_r_ge
    · split
      · exact tk_r_ge
      · omega
  · exact Nat.le_refl _
theorem tk_e_le (h : b ≤ n) : tk_e T n b ≤ n := by
  have hs := tk_s_le (T := T) h
  unfold tk_e
  split
  · split
    · exact tk_r_le (by omega)
    · split
      · exact tk_r_le (by omega)
      · omega
  · exact hs
theorem tk_e_gt (h : tk_k T n b ≠ 0) : tk_s T n b < tk_e T n b ∧ tk_s T n b < n := by
  unfold tk_k at h
  unfold tk_e
  split at h
  · rename_i hs
    refine ⟨?_, hs⟩
    rw [if_pos hs]
    split
    · rename_i w; exact tk_r_lt hs w
    · split
      · rename_i w; exact tk_r_lt hs w
      · omega
  · exact absurd rfl h
theorem tk_k0 (h : tk_k T n b = 0) (hb : b ≤ n) : tk_s T n b = n := by
  have hs := tk_s_le (T := T) hb
  unfold tk_k at h
  split at h
  · split at h
    · cases h
    · split at h
      · split at h <;> cases h
      · split at h <;> cases h
  · omega
end TKF
