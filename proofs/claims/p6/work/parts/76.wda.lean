/-! WORDS: letters packed into a long, and letters of a String constant -/
theorem tp_c : ∀ k : Fin 256, (Int32.ofNat k.val).toInt64.toBitVec.toNat = k.val := by decide +kernel
theorem tp_step {w : Int64} {c : Int32} (hw : w.toBitVec.toNat < 36028797018963968) (h0 : 0 ≤ c.toInt) (h1 : c.toInt < 256) : ((w <<< ((8 : Int32).toInt64 &&& 63)) ||| c.toInt64).toBitVec.toNat = w.toBitVec.toNat * 256 + c.toInt.toNat := by
  have ec : c = Int32.ofNat c.toInt.toNat := by
    rw [← Int32.toInt_inj, n32_i (by omega)]; omega
  have e2 : c.toInt64.toBitVec.toNat = c.toInt.toNat := by
    have := tp_c ⟨c.toInt.toNat, by omega⟩
    rw [ec]
    rw [n32_i (i := c.toInt.toNat) (by omega)]
    exact this
  have e : ((w <<< ((8 : Int32).toInt64 &&& 63)) ||| c.toInt64).toBitVec = (w.toBitVec <<< (8 : Nat)) ||| c.toInt64.toBitVec := rfl
  rw [e, BitVec.toNat_or, BitVec.toNat_shiftLeft, e2, Nat.shiftLeft_eq, Nat.mod_eq_of_lt (by omega), ← Nat.shiftLeft_eq, ← Nat.shiftLeft_add_eq_or_of_lt (i := 8) (by omega), Nat.shiftLeft_eq]
def tp_n (T : Nat → Int32) (s : Nat) : Nat → Nat
  | 0 => 0
  | k + 1 => tp_n T s k * 256 + (T (s + k)).toInt.toNat
theorem tp_lt {T : Nat → Int32} {s k : Nat} (hT : ∀ i, i < k → tk_le (T (s + i)) = true) : tp_n T s k < 256 ^ k := by
  induction k with
  | zero => show 0 < 1; decide
  | succ k ih =>
    have h1 := ih (fun i hi => hT i (by omega))
    have h2 := hT k (by omega)
    unfold tk_le at h2
    rw [decide_eq_true_eq] at h2
    have h3 := Int32.le_iff_toInt_le.mp h2.2
    have h4 : (T (s + k)).toInt ≤ 122 := h3
    show tp_n T s k * 256 + (T (s + k)).toInt.toNat < 256 ^ (k + 1)
    rw [Nat.pow_succ]; omega
theorem tk_le_b {x : Int32} (h : tk_le x = true) : 97 ≤ x.toInt ∧ x.toInt ≤ 122 := by
  unfold tk_le at h
  rw [decide_eq_true_eq] at h
  exact ⟨Int32.le_iff_toInt_le.mp h.1, Int32.le_iff_toInt_le.mp h.2⟩
theorem tp_lt2 {T : Nat → Int32} {s : Nat} : ∀ k : Nat, (∀ i, i < k + 1 → tk_le (T (s + i)) = true) → tp_n T s (k + 1) < 123 * 256 ^ k
  | 0, hT => by
    have := tk_le_b (hT 0 (by decide))
    show 0 * 256 + (T (s + 0)).toInt.toNat < 123 * 1
    omega
  | k + 1, hT => by
    have h1 := tp_lt2 k (fun i hi => hT i (by omega))
    have h2 := tk_le_b (hT (k + 1) (by omega))
    show tp_n T s (k + 1) * 256 + (T (s + (k + 1))).toInt.toNat < 123 * 256 ^ (k + 1)
    rw [Nat.pow_succ]; omega
theorem tp_f {T : Nat → Int32} {s k : Nat} (hk : k ≤ 8) (hT : ∀ i, i < k → tk_le (T (s + i)) = true) : (tk_pf T s k).toBitVec.toNat = tp_n T s k := by
  induction k with
  | zero => rfl
  | succ k ih =>
    have h1 := ih (by omega) (fun i hi => hT i (by omega))
    have h2 := tk_le_b (hT k (by omega))
    have h6 : tp_n T s k < 36028797018963968 := by
      cases k with
      | zero => show 0 < 36028797018963968; decide
      | succ j =>
        have a1 := tp_lt2 (T := T) (s := s) j (fun i hi => hT i (by omega))
        have a3 : 256 ^ j ≤ 256 ^ 6 := Nat.pow_le_pow_right (by decide) (by omega)
        have a4 : (256 : Nat) ^ 6 = 281474976710656 := by decide
        omega
    show ((tk_pf T s k <<< ((8 : Int32).toInt64 &&& 63)) ||| (T (s + k)).toInt64).toBitVec.toNat = tp_n T s k * 256 + (T (s + k)).toInt.toNat
    rw [tp_step (by rw [h1]; exact h6) (by omega) (by omega), h1]
theorem tp_inj {T B : Nat → Int32} {s f : Nat} : ∀ {k m : Nat}, (∀ i, i < k → tk_le (T (s + i)) = true) → (∀ i, i < m → tk_le (B (f + i)) = true) → tp_n T s k = tp_n B f m → k = m ∧ ∀ i, i < m → B (f + i) = T (s + i)
  | 0, 0, _, _, _ => ⟨rfl, fun i hi => absurd hi (by omega)⟩
  | 0, m + 1, _, hB, e => by
    have := tk_le_b (hB m (by omega))
    have e' : 0 = tp_n B f m * 256 + (B (f + m)).toInt.toNat := e
    omega
  | k + 1, 0, hT, _, e => by
    have := tk_le_b (hT k (by omega))
    have e' : tp_n T s k * 256 + (T (s + k)).toInt.toNat = 0 := e
    omega
  | k + 1, m + 1, hT, hB, e => by
    have h1 := tk_le_b (hT k (by omega))
    have h2 := tk_le_b (hB m (by omega))
    have e' : tp_n T s k * 256 + (T (s + k)).toInt.toNat = tp_n B f m * 256 + (B (f + m)).toInt.toNat := e
    obtain ⟨e1, e2⟩ := tp_inj (k := k) (m := m) (fun i hi => hT i (by omega)) (fun i hi => hB i (by omega)) (by omega)
    subst e1
    refine ⟨rfl, fun i hi => ?_⟩
    by_cases hk : i = k
    · subst hk; rw [← Int32.toInt_inj]; omega
    · exact e2 i (by omega)
/-- whether the letters s .. e of T are f .. l of B -/
def sp_b (B T : Nat → Int32) (f l s e : Nat) : Bool := decide (l - f = e - s) && (List.range (l - f)).all (fun i => decide (B (f + i) = T (s + i)))
theorem sp_iff {B T : Nat → Int32} {f l s e : Nat} : sp_b B T f l s e = true ↔ l - f = e - s ∧ ∀ i, i < l - f → B (f + i) = T (s + i) := by
  unfold sp_b
  rw [Bool.and_eq_true, decide_eq_true_eq, List.all_eq_true]
  refine ⟨fun z => ⟨z.1, fun i hi => of_decide_eq_true (z.2 i (List.mem_range.mpr hi))⟩, fun z => ⟨z.1, fun i hi => decide_eq_true (z.2 i (List.mem_range.mp hi))⟩⟩
/-- a packed word is a constant just when its letters are -/
theorem tk_p_eq {T B : Nat → Int32} {n b f l : Nat} (hk : tk_k T n b = 1) (hb : b ≤ n) (hm : 1 ≤ l - f) (hm8 : l - f ≤ 8) (hB : ∀ i, i < l - f → tk_le (B (f + i)) = true) : tk_p T n b = tk_pf B f (l - f) ↔ sp_b B T f l (tk_s T n b) (tk_e T n b) = true := by
  have hs : tk_s T n b < n := (tk_e_gt (T := T) (n := n) (b := b) (by omega)).2
  have hl : tk_le (T (tk_s T n b)) = true := by
    apply Classical.byContradiction
    intro hc
    unfold tk_k at hk
    rw [if_pos hs, if_neg hc] at hk
    split at hk
    · split at hk <;> cases hk
    · split at hk <;> cases hk
  have he : tk_e T n b = tk_r tk_le T n (tk_s T n b) := by unfold tk_e; rw [if_pos hs, if_pos hl]
  have hge : tk_s T n b ≤ tk_r tk_le T n (tk_s T n b) := tk_r_ge
  have hT : ∀ i, i < tk_r tk_le T n (tk_s T n b) - tk_s T n b → tk_le (T (tk_s T n b + i)) = true := fun i hi => tk_r_all (n := n) (i := tk_s T n b) (by omega) (by omega)
  rw [sp_iff, he]
  have pB := tp_f (T := B) (s := f) hm8 hB
  unfold tk_p
  by_cases h8 : tk_r tk_le T n (tk_s T n b) ≤ tk_s T n b + 8
  · rw [if_pos h8]
    have pT := tp_f (T := T) (s := tk_s T n b) (by omega) hT
    constructor
    · intro e
      have e2 : tp_n T (tk_s T n b) (tk_r tk_le T n (tk_s T n b) - tk_s T n b) = tp_n B f (l - f) := by rw [← pT, ← pB, e]
      obtain ⟨e3, e4⟩ := tp_inj hT hB e2
      exact ⟨e3.symm, e4⟩
    · intro e
      rw [← e.1]
      have : ∀ m, m ≤ l - f → tk_pf T (tk_s T n b) m = tk_pf B f m := by
        intro m
        induction m with
        | zero => intro _; rfl
        | succ m ih =>
          intro hm'
          show (tk_pf T _ m <<< _) ||| (T (_ + m)).toInt64 = (tk_pf B f m <<< _) ||| (B (f + m)).toInt64
          rw [ih (by omega), e.2 m (by omega)]
      exact this _ (Nat.le_refl _)
  · rw [if_neg h8]
    constructor
    · intro e
      exfalso
      have : tp_n B f (l - f) = 0 := by rw [← pB, ← e]; rfl
      obtain ⟨j, hj⟩ : ∃ j, l - f = j + 1 := ⟨l - f - 1, by omega⟩
      rw [hj] at this
      have h2 := tk_le_b (hB j (by omega))
      have e' : tp_n B f j * 256 + (B (f + j)).toInt.toNat = 0 := this
      omega
    · intro e; omega
/-- which of a String's words: B its bytes, Ln how many, P whether a piece is it -/
def wa_f (B : Nat → Int32) (Ln : Nat) (P : Nat → Nat → Bool) : Nat → Nat → Int32 → Nat → Int32
  | 0, _, _, _ => -1
  | k + 1, i, w, f => if i = Ln ∨ B i = 32 then (if P f i = true then w else wa_f B Ln P k (i + 1) (w + 1) (i + 1)) else wa_f B Ln P k (i + 1) w f
def wa_n (t : Nat) : Nat := if t = 7 then 14 else if t = 8 then 20 else if t = 9 then 33 else 23
def wa (t : Nat) (P : Nat → Nat → Bool) : Int32 := wa_f (ex_st (t + 4)) (wa_n t) P (wa_n t + 1) 0 0 0
theorem wa_7 (P : Nat → Nat → Bool) : wa 7 P = if P 0 4 = true then 0 else if P 5 9 = true then 1 else if P 10 14 = true then 2 else -1 := by rfl
theorem wa_8 (P : Nat → Nat → Bool) : wa 8 P = if P 0 5 = true then 0 else if P 6 10 = true then 1 else if P 11 15 = true then 2 else if P 16 20 = true then 3 else -1 := by rfl
theorem wa_9 (P : Nat → Nat → Bool) : wa 9 P = if P 0 5 = true then 0 else if P 6 10 = true then 1 else if P 11 16 = true then 2 else if P 17 21 = true then 3 else if P 22 28 = true then 4 else if P 29 33 = true then 5 else -1 := by rfl
theorem wa_10 (P : Nat → Nat → Bool) : wa 10 P = if P 0 4 = true then 0 else if P 5 9 = true then 1 else if P 10 14 = true then 2 else if P 15 19 = true then 3 else if P 20 23 = true then 4 else -1 := by rfl
theorem wa_ln : ∀ t, 7 ≤ t → t < 11 → ex_eL (pm_f0 false 0 (fun _ => 0) (t + 4)) = wa_n t := by
  intro t h1 h2
  rcases (show t = 7 ∨ t = 8 ∨ t = 9 ∨ t = 10 by omega) with e | e | e | e <;> subst e <;> rfl
theorem wa_ch : ∀ t, 7 ≤ t → t < 11 → ∀ i, i < wa_n t → ((ex_st (t + 4) i &&& 255).toUInt32 % 65536).toInt32 = ex_st (t + 4) i := by
  have k7 : ∀ i : Fin 14, ((ex_st 11 i.val &&& 255).toUInt32 % 65536).toInt32 = ex_st 11 i.val := by decide +kernel
  have k8 : ∀ i : Fin 20, ((ex_st 12 i.val &&& 255).toUInt32 % 65536).toInt32 = ex_st 12 i.val := by decide +kernel
  have k9 : ∀ i : Fin 33, ((ex_st 13 i.val &&& 255).toUInt32 % 65536).toInt32 = ex_st 13 i.val := by decide +kernel
  have k10 : ∀ i : Fin 23, ((ex_st 14 i.val &&& 255).toUInt32 % 65536).toInt32 = ex_st 14 i.val := by decide +kernel
  intro t h1 h2 i hi
  rcases (show t = 7 ∨ t = 8 ∨ t = 9 ∨ t = 10 by omega) with e | e | e | e <;> subst e
  · exact k7 ⟨i, hi⟩
  · exact k8 ⟨i, hi⟩
  · exact k9 ⟨i, hi⟩
  · exact k10 ⟨i, hi⟩
theorem wa_n33 (t : Nat) : wa_n t ≤ 33 := by
  unfold wa_n
  (repeat' split) <;> omega
def cc25 (t : Nat) (S : ex_S) (v : Int32) (S' : ex_S) : Prop := S' = S ∧ (ex_KV S → 7 ≤ t → t < 11 → v = Int32.ofNat (wa_n t))
theorem ec25 : es25 cc25 := by
  refine ev25 ?_
  intro t S kv
  refine ⟨rfl, fun kv h1 h2 => ?_⟩
  rw [(kv (t + 4) (by omega) (by omega)).2, wa_ln t h1 h2]
  rcases (show t = 7 ∨ t = 8 ∨ t = 9 ∨ t = 10 by omega) with e | e | e | e <;> subst e <;> decide
def cc27 (t : Nat) (x : Int32) (S : ex_S) (v : Int32) (S' : ex_S) : Prop := S' = S ∧ (ex_KV S → 7 ≤ t → t < 11 → ∀ i, x = Int32.ofNat i → i < wa_n t → v = ex_st (t + 4) i)
theorem ec27 : es27 cc27 := by
  have k : ∀ (t : Nat) (a : Int32) (S : ex_S), cc27 t a S ((((S.1 (t + 4) a.toNatClampNeg) &&& 255).toUInt32 % 65536).toInt32) S := by
    intro t a S
    refine ⟨rfl, fun kv h1 h2 i e hi => ?_⟩
    have := wa_n33 t
    rw [e, n32_tn (by omega), (kv (t + 4) (by omega) (by omega)).1]
    exact wa_ch t h1 h2 i hi
  exact ev27 (fun t a S _ _ _ => k t a S) (fun t a S _ _ _ => k t a S)
def cc36 (t : Nat) (a1 a2 : Int32) (S : ex_S) (v : Int32) (S' : ex_S) : Prop := S' = S ∧ (ex_KV S → 7 ≤ t → t < 11 → ∀ f l s e, a1 = Int32.ofNat f → a2 = Int32.ofNat l → f ≤ l → l ≤ wa_n t → S.1 30 3 = Int32.ofNat s → S.1 30 2 = Int32.ofNat e → s ≤ e → e ≤ 600 → v = if sp_b (ex_st (t + 4)) (S.1 18) f l s e = true then 1 else 0)
def ci36 (t : Nat) (a1 a2 : Int32) (S : ex_S) (x : Int32) (T : ex_S) : Prop := T = S ∧ (ex_KV S → 7 ≤ t → t < 11 → ∀ f l s e, a1 = Int32.ofNat f → a2 = Int32.ofNat l → f ≤ l → l ≤ wa_n t → S.1 30 3 = Int32.ofNat s → S.1 30 2 = Int32.ofNat e → s ≤ e → e ≤ 600 → l - f = e - s ∧ ∃ j, f ≤ j ∧ j ≤ l ∧ x = Int32.ofNat j ∧ ∀ i, i < j - f → ex_st (t + 4) (f + i) = S.1 18 (s + i))
theorem ec36 : es36 cc36 := by
  refine ev36 (I20 := ci36) ec27 ?_ ?_ ?_ ?_ ?_
  · intro t a1 a2 S kv c
    refine ⟨rfl, fun kv h1 h2 f l s e e1 e2 hf hl e3 e4 hs he => ?_⟩
    have := wa_n33 t
    rw [e1, e2, e3, e4, n32_sub hf, n32_sub hs, n32_eq (by omega) (by omega)] at c
    exact ⟨c, f, Nat.le_refl _, hf, e1, fun i hi => absurd hi (by omega)⟩
  · intro t a1 a2 S kv c
    refine ⟨rfl, fun kv h1 h2 f l s e e1 e2 hf hl e3 e4 hs he => ?_⟩
    have := wa_n33 t
    rw [e1, e2, e3, e4, n32_sub hf, n32_sub hs, n32_eq (by omega) (by omega)] at c
    rw [if_neg (fun z => c (sp_iff.mp z).1)]
  · intro t a1 a2 S x T hI kv c
    obtain ⟨rfl, hI⟩ := hI
    refine ⟨rfl, fun kv h1 h2 f l s e e1 e2 hf hl e3 e4 hs he => ?_⟩
    have := wa_n33 t
    obtain ⟨d, j, j1, j2, j3, j4⟩ := hI kv h1 h2 f l s e e1 e2 hf hl e3 e4 hs he
    rw [e2, j3, n32_le (by omega) (by omega)] at c
    have : j = l := by omega
    subst this
    rw [if_pos (sp_iff.mpr ⟨d, j4⟩)]
  · intro t a1 a2 S x T hI kv c r U hU c2
    obtain ⟨rfl, hI⟩ := hI
    obtain ⟨rfl, hU⟩ := hU
    refine ⟨rfl, fun kv h1 h2 f l s e e1 e2 hf hl e3 e4 hs he => ?_⟩
    have := wa_n33 t
    obtain ⟨d, j, j1, j2, j3, j4⟩ := hI kv h1 h2 f l s e e1 e2 hf hl e3 e4 hs he
    rw [e2, j3, n32_le (by omega) (by omega)] at c
    have e5 := hU kv h1 h2 j j3 (by omega)
    rw [e5, e3, j3, e1, n32_add, n32_sub (by omega), n32_tn (by omega)] at c2
    refine ⟨d, j + 1, by omega, by omega, by rw [j3, n32_s], fun i hi => ?_⟩
    by_cases hj : i = j - f
    · subst hj; rw [show f + (j - f) = j by omega, c2, show s + j - f = s + (j - f) by omega]
    · exact j4 i (by omega)
  · intro t a1 a2 S x T hI kv c r U hU c2
    obtain ⟨rfl, hI⟩ := hI
    obtain ⟨rfl, hU⟩ := hU
    refine ⟨rfl, fun kv h1 h2 f l s e e1 e2 hf hl e3 e4 hs he => ?_⟩
    have := wa_n33 t
    obtain ⟨d, j, j1, j2, j3, j4⟩ := hI kv h1 h2 f l s e e1 e2 hf hl e3 e4 hs he
    rw [e2, j3, n32_le (by omega) (by omega)] at c
    have e5 := hU kv h1 h2 j j3 (by omega)
    rw [e5, e3, j3, e1, n32_add, n32_sub (by omega), n32_tn (by omega)] at c2
    rw [if_neg]
    intro z
    have z2 := (sp_iff.mp z).2 (j - f) (by omega)
    rw [show f + (j - f) = j by omega] at z2
    exact c2 (z2.trans (by rw [show s + j - f = s + (j - f) by omega]))
/-- which word the class's token is -/
def cc24 (t : Nat) (S : ex_S) (v : Int32) (S' : ex_S) : Prop := S' = S ∧ (ex_KV S → 7 ≤ t → t < 11 → ∀ s e, S.1 30 3 = Int32.ofNat s → S.1 30 2 = Int32.ofNat e → s ≤ e → e ≤ 600 → v = if S.1 30 4 = 1 then wa t (fun f l => sp_b (ex_st (t + 4)) (S.1 18) f l s e) else -1)
def ci24 (t : Nat) (S : ex_S) (w x3 x4 : Int32) (T : ex_S) : Prop := T = S ∧ S.1 30 4 = 1 ∧ (ex_KV S → 7 ≤ t → t < 11 → ∀ s e, S.1 30 3 = Int32.ofNat s → S.1 30 2 = Int32.ofNat e → s ≤ e → e ≤ 600 → ∃ f i, f ≤ i ∧ i ≤ wa_n t + 1 ∧ x3 = Int32.ofNat f ∧ x4 = Int32.ofNat i ∧ wa_f (ex_st (t + 4)) (wa_n t) (fun f l => sp_b (ex_st (t + 4)) (S.1 18) f l s e) (wa_n t + 1 - i) i w f = wa t (fun f l => sp_b (ex_st (t + 4)) (S.1 18) f l s e))
theorem wa_fy {B : Nat → Int32} {Ln i f : Nat} {P : Nat → Nat → Bool} {w : Int32} (hi : i ≤ Ln) (h : i = Ln ∨ B i = 32) : wa_f B Ln P (Ln + 1 - i) i w f = if P f i = true then w else wa_f B Ln P (Ln + 1 - (i + 1)) (i + 1) (w + 1) (i + 1) := by
  rw [show Ln + 1 - i = (Ln + 1 - (i + 1)) + 1 by omega]
  exact if_pos h
theorem wa_fn {B : Nat → Int32} {Ln i f : Nat} {P : Nat → Nat → Bool} {w : Int32} (hi : i ≤ Ln) (h : ¬ (i = Ln ∨ B i = 32)) : wa_f B Ln P (Ln + 1 - i) i w f = wa_f B Ln P (Ln + 1 - (i + 1)) (i + 1) w f := by
  rw [show Ln + 1 - i = (Ln + 1 - (i + 1)) + 1 by omega]
  exact if_neg h
theorem ec24 : es24 cc24 := by
  refine ev24 (I17 := ci24) ec25 ec27 ec36 ?_ ?_ ?_ ?_ ?_ ?_ ?_ ?_
  · intro t S kv c
    refine ⟨rfl, c, fun kv h1 h2 s e e3 e4 hs he => ⟨0, 0, Nat.le_refl _, by omega, rfl, rfl, rfl⟩⟩
  · intro t S kv c
    exact ⟨rfl, fun kv h1 h2 s e e3 e4 hs he => by rw [if_neg c]⟩
  · intro t S w x3 x4 T hI kv r U hU c
    obtain ⟨rfl, h4, hI⟩ := hI
    obtain ⟨rfl, hU⟩ := hU
    refine ⟨rfl, fun kv h1 h2 s e e3 e4 hs he => ?_⟩
    have := wa_n33 t
    obtain ⟨f, i, i1, i2, i3, i4, i5⟩ := hI kv h1 h2 s e e3 e4 hs he
    rw [hU kv h1 h2, i4, n32_lt (by omega) (by omega)] at c
    have : i = wa_n t + 1 := by omega
    rw [if_pos h4, ← i5, this, Nat.sub_self]; rfl
  · intro t S w x3 x4 T hI kv r U hU c r2 U2 hU2 c2 r3 U3 hU3 c3
    obtain ⟨rfl, h4, hI⟩ := hI
    obtain ⟨rfl, hU⟩ := hU
    obtain ⟨rfl, hU2⟩ := hU2
    obtain ⟨rfl, hU3⟩ := hU3
    refine ⟨rfl, h4, fun kv h1 h2 s e e3 e4 hs he => ?_⟩
    have := wa_n33 t
    obtain ⟨f, i, i1, i2, i3, i4, i5⟩ := hI kv h1 h2 s e e3 e4 hs he
    rw [hU2 kv h1 h2, i4, n32_eq (by omega) (by omega)] at c2
    rw [hU3 kv h1 h2 f i s e i3 i4 i1 (by omega) e3 e4 hs he, vf_0] at c3
    refine ⟨i + 1, i + 1, Nat.le_refl _, by omega, by rw [i4, n32_s], by rw [i4, n32_s], ?_⟩
    rw [← i5, wa_fy (by omega) (Or.inl c2), if_neg c3]
  · intro t S w x3 x4 T hI kv r U hU c r2 U2 hU2 c2 r3 U3 hU3 c3
    obtain ⟨rfl, h4, hI⟩ := hI
    obtain ⟨rfl, hU⟩ := hU
    obtain ⟨rfl, hU2⟩ := hU2
    obtain ⟨rfl, hU3⟩ := hU3
    refine ⟨rfl, fun kv h1 h2 s e e3 e4 hs he => ?_⟩
    have := wa_n33 t
    obtain ⟨f, i, i1, i2, i3, i4, i5⟩ := hI kv h1 h2 s e e3 e4 hs he
    rw [hU2 kv h1 h2, i4, n32_eq (by omega) (by omega)] at c2
    rw [hU3 kv h1 h2 f i s e i3 i4 i1 (by omega) e3 e4 hs he, vf_0, Classical.not_not] at c3
    rw [if_pos h4, ← i5, wa_fy (by omega) (Or.inl c2), if_pos c3]
  · intro t S w x3 x4 T hI kv r U hU c r2 U2 hU2 c2 r3 U3 hU3 c3
    obtain ⟨rfl, h4, hI⟩ := hI
    obtain ⟨rfl, hU⟩ := hU
    obtain ⟨rfl, hU2⟩ := hU2
    obtain ⟨rfl, hU3⟩ := hU3
    refine ⟨rfl, h4, fun kv h1 h2 s e e3 e4 hs he => ?_⟩
    have := wa_n33 t
    obtain ⟨f, i, i1, i2, i3, i4, i5⟩ := hI kv h1 h2 s e e3 e4 hs he
    rw [hU kv h1 h2, i4, n32_lt (by omega) (by omega)] at c
    rw [hU2 kv h1 h2, i4, n32_eq (by omega) (by omega)] at c2
    rw [hU3 kv h1 h2 i i4 (by omega)] at c3
    refine ⟨f, i + 1, by omega, by omega, i3, by rw [i4, n32_s], ?_⟩
    rw [← i5, wa_fn (by omega) (fun z => z.elim c2 c3)]
  · intro t S w x3 x4 T hI kv r U hU c r2 U2 hU2 c2 r3 U3 hU3 c3 r4 U4 hU4 c4
    obtain ⟨rfl, h4, hI⟩ := hI
    obtain ⟨rfl, hU⟩ := hU
    obtain ⟨rfl, hU2⟩ := hU2
    obtain ⟨rfl, hU3⟩ := hU3
    obtain ⟨rfl, hU4⟩ := hU4
    refine ⟨rfl, h4, fun kv h1 h2 s e e3 e4 hs he => ?_⟩
    have := wa_n33 t
    obtain ⟨f, i, i1, i2, i3, i4, i5⟩ := hI kv h1 h2 s e e3 e4 hs he
    rw [hU kv h1 h2, i4, n32_lt (by omega) (by omega)] at c
    rw [hU2 kv h1 h2, i4, n32_eq (by omega) (by omega)] at c2
    rw [hU3 kv h1 h2 i i4 (by omega), Classical.not_not] at c3
    rw [hU4 kv h1 h2 f i s e i3 i4 i1 (by omega) e3 e4 hs he, vf_0] at c4
    refine ⟨i + 1, i + 1, Nat.le_refl _, by omega, by rw [i4, n32_s], by rw [i4, n32_s], ?_⟩
    rw [← i5, wa_fy (by omega) (Or.inr c3), if_neg c4]
  · intro t S w x3 x4 T hI kv r U hU c r2 U2 hU2 c2 r3 U3 hU3 c3 r4 U4 hU4 c4
    obtain ⟨rfl, h4, hI⟩ := hI
    obtain ⟨rfl, hU⟩ := hU
    obtain ⟨rfl, hU2⟩ := hU2
    obtain ⟨rfl, hU3⟩ := hU3
    obtain ⟨rfl, hU4⟩ := hU4
    refine ⟨rfl, fun kv h1 h2 s e e3 e4 hs he => ?_⟩
    have := wa_n33 t
    obtain ⟨f, i, i1, i2, i3, i4, i5⟩ := hI kv h1 h2 s e e3 e4 hs he
    rw [hU kv h1 h2, i4, n32_lt (by omega) (by omega)] at c
    rw [hU2 kv h1 h2, i4, n32_eq (by omega) (by omega)] at c2
    rw [hU3 kv h1 h2 i i4 (by omega), Classical.not_not] at c3
    rw [hU4 kv h1 h2 f i s e i3 i4 i1 (by omega) e3 e4 hs he, vf_0, Classical.not_not] at c4
    rw [if_pos h4, ← i5, wa_fy (by omega) (Or.inr c3), if_pos c4]
