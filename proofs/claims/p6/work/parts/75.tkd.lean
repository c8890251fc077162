/-! THE REFERENCE'S TOKENS -/
theorem by_all : ∀ k : Fin 256, ((Int32.ofInt ((k.val : Int) - 128) &&& 255 = 10 ↔ Int32.ofInt ((k.val : Int) - 128) = 10) ∧ (Int32.ofInt ((k.val : Int) - 128) &&& 255 = 32 ↔ Int32.ofInt ((k.val : Int) - 128) = 32) ∧ (Int32.ofInt ((k.val : Int) - 128) &&& 255 = 59 ↔ Int32.ofInt ((k.val : Int) - 128) = 59) ∧ (97 ≤ Int32.ofInt ((k.val : Int) - 128) &&& 255 ∧ Int32.ofInt ((k.val : Int) - 128) &&& 255 ≤ 122 ↔ 97 ≤ Int32.ofInt ((k.val : Int) - 128) ∧ Int32.ofInt ((k.val : Int) - 128) ≤ 122) ∧ (48 ≤ Int32.ofInt ((k.val : Int) - 128) &&& 255 ∧ Int32.ofInt ((k.val : Int) - 128) &&& 255 ≤ 57 ↔ 48 ≤ Int32.ofInt ((k.val : Int) - 128) ∧ Int32.ofInt ((k.val : Int) - 128) ≤ 57) ∧ 0 ≤ Int32.ofInt ((k.val : Int) - 128) &&& 255 ∧ (0 ≤ Int32.ofInt ((k.val : Int) - 128) → Int32.ofInt ((k.val : Int) - 128) &&& 255 = Int32.ofInt ((k.val : Int) - 128))) := by decide +kernel
theorem by_and {x : Int32} (hx : sf_B (-128) 127 x) : (x &&& 255 = 10 ↔ x = 10) ∧ (x &&& 255 = 32 ↔ x = 32) ∧ (x &&& 255 = 59 ↔ x = 59) ∧ (97 ≤ x &&& 255 ∧ x &&& 255 ≤ 122 ↔ 97 ≤ x ∧ x ≤ 122) ∧ (48 ≤ x &&& 255 ∧ x &&& 255 ≤ 57 ↔ 48 ≤ x ∧ x ≤ 57) ∧ 0 ≤ x &&& 255 ∧ (0 ≤ x → x &&& 255 = x) := by
  obtain ⟨h1, h2⟩ := hx
  have e : x = Int32.ofInt ((((⟨(x.toInt + 128).toNat, by omega⟩ : Fin 256).val : Nat) : Int) - 128) := by
    rw [← Int32.toInt_inj]
    show x.toInt = (Int32.ofInt (((x.toInt + 128).toNat : Int) - 128)).toInt
    rw [show (((x.toInt + 128).toNat : Nat) : Int) - 128 = x.toInt by omega, Int32.ofInt_toInt]
  rw [e]
  exact by_all _
/-- numbers of a view but those of P stay; of the longs the word alone -/
def ex_fw (P : Nat → Nat → Prop) (S S' : ex_S) : Prop := (∀ a k, ¬ P a k → S'.1 a k = S.1 a k) ∧ (∀ a k, ¬ (a = 41 ∧ k = 15) → S'.2.1 a k = S.2.1 a k) ∧ S'.2.2 = S.2.2
theorem ex_fw.refl (P : Nat → Nat → Prop) (S : ex_S) : ex_fw P S S := ⟨fun _ _ _ => rfl, fun _ _ _ => rfl, rfl⟩
theorem ex_fw.sx {P : Nat → Nat → Prop} {S T : ex_S} {a k : Nat} {v : Int32} (h : ex_fw P S T) (hP : P a k) : ex_fw P S (ex_sx T a k v) := by
  refine ⟨fun b j hb => ?_, h.2.1, h.2.2⟩
  show (if b = a ∧ j = k then v else T.1 b j) = _
  rw [if_neg (fun z => hb (by rw [z.1, z.2]; exact hP))]; exact h.1 b j hb
theorem ex_fw.sy {P : Nat → Nat → Prop} {S T : ex_S} {v : Int64} (h : ex_fw P S T) : ex_fw P S (ex_sy T 41 15 v) := by
  refine ⟨h.1, fun b j hb => ?_, h.2.2⟩
  show (if b = 41 ∧ j = 15 then v else T.2.1 b j) = _
  rw [if_neg hb]; exact h.2.1 b j hb
theorem ex_fw.trans {P : Nat → Nat → Prop} {S T U : ex_S} (h : ex_fw P S T) (g : ex_fw P T U) : ex_fw P S U := ⟨fun a k hk => (g.1 a k hk).trans (h.1 a k hk), fun a k hk => (g.2.1 a k hk).trans (h.2.1 a k hk), g.2.2.trans h.2.2⟩
theorem ex_fw.mono {P P' : Nat → Nat → Prop} {S T : ex_S} (h : ex_fw P S T) (hP : ∀ a k, P a k → P' a k) : ex_fw P' S T := ⟨fun a k hk => h.1 a k (fun z => hk (hP a k z)), h.2⟩
theorem ex_sy_1 {S : ex_S} {a k : Nat} {v : Int64} : (ex_sy S a k v).1 = S.1 := rfl
theorem ex_sy_eq {S : ex_S} {a k : Nat} {v : Int64} : (ex_sy S a k v).2.1 a k = v := if_pos ⟨rfl, rfl⟩
theorem ex_sx_2 {S : ex_S} {a k : Nat} {v : Int32} : (ex_sx S a k v).2 = S.2 := rfl
/-- where the reference stands on its tape; the tape holds bytes -/
def tr_at (S : ex_S) (n b : Nat) : Prop := S.1 41 11 = Int32.ofNat n ∧ S.1 41 10 = Int32.ofNat b ∧ b ≤ n ∧ n ≤ 600 ∧ ∀ i, sf_B (-128) 127 (S.1 42 i)
theorem see_at {S T : ex_S} {n i : Nat} (hn : n ≤ 600) (hi : i ≤ n) (t1 : T.1 41 11 = Int32.ofNat n) (t2 : T.1 41 10 = Int32.ofNat i) (t3 : T.1 42 i = S.1 42 i) : vf180 T = if i < n then S.1 42 i &&& 255 else -1 := by
  unfold vf180
  rw [t1, t2, n32_tn (by omega), t3]
  by_cases h : i < n
  · rw [if_pos h, if_neg (fun z => absurd ((n32_le (by omega) (by omega)).mp z) (by omega))]
  · rw [if_neg h, if_pos ((n32_le (by omega) (by omega)).mpr (by omega))]
theorem see_10 {x : Int32} {c : Prop} [Decidable c] (hx : sf_B (-128) 127 x) : ((if c then x &&& 255 else -1 : Int32) = 10) ↔ c ∧ x = 10 := by
  by_cases h : c
  · rw [if_pos h, (by_and hx).1]; exact ⟨fun z => ⟨h, z⟩, fun z => z.2⟩
  · rw [if_neg h]; exact ⟨fun z => absurd z (by decide), fun z => absurd z.1 h⟩
theorem see_32 {x : Int32} {c : Prop} [Decidable c] (hx : sf_B (-128) 127 x) : ((if c then x &&& 255 else -1 : Int32) = 32) ↔ c ∧ x = 32 := by
  by_cases h : c
  · rw [if_pos h, (by_and hx).2.1]; exact ⟨fun z => ⟨h, z⟩, fun z => z.2⟩
  · rw [if_neg h]; exact ⟨fun z => absurd z (by decide), fun z => absurd z.1 h⟩
theorem see_59 {x : Int32} {c : Prop} [Decidable c] (hx : sf_B (-128) 127 x) : ((if c then x &&& 255 else -1 : Int32) = 59) ↔ c ∧ x = 59 := by
  by_cases h : c
  · rw [if_pos h, (by_and hx).2.2.1]; exact ⟨fun z => ⟨h, z⟩, fun z => z.2⟩
  · rw [if_neg h]; exact ⟨fun z => absurd z (by decide), fun z => absurd z.1 h⟩
theorem see_le {x : Int32} {c : Prop} [Decidable c] (hx : sf_B (-128) 127 x) : (vf174 (if c then x &&& 255 else -1 : Int32) 97 122 = 0) ↔ ¬ (c ∧ tk_le x = true) := by
  unfold vf174 tk_le
  rw [vf_0, decide_eq_true_eq]
  by_cases h : c
  · rw [if_pos h, (by_and hx).2.2.2.1]; exact ⟨fun z w => z w.2, fun z w => z ⟨h, w⟩⟩
  · rw [if_neg h]; exact ⟨fun _ w => h w.1, fun _ w => absurd w.1 (by decide)⟩
theorem see_di {x : Int32} {c : Prop} [Decidable c] (hx : sf_B (-128) 127 x) : (vf174 (if c then x &&& 255 else -1 : Int32) 48 57 = 0) ↔ ¬ (c ∧ tk_di x = true) := by
  unfold vf174 tk_di
  rw [vf_0, decide_eq_true_eq]
  by_cases h : c
  · rw [if_pos h, (by_and hx).2.2.2.2.1]; exact ⟨fun z w => z w.2, fun z w => z ⟨h, w⟩⟩
  · rw [if_neg h]; exact ⟨fun _ w => h w.1, fun _ w => absurd w.1 (by decide)⟩
theorem see_0 {x : Int32} {c : Prop} [Decidable c] (hx : sf_B (-128) 127 x) : (0 ≤ (if c then x &&& 255 else -1 : Int32)) ↔ c := by
  by_cases h : c
  · rw [if_pos h]; exact ⟨fun _ => h, fun _ => (by_and hx).2.2.2.2.2.1⟩
  · rw [if_neg h]; exact ⟨fun z => absurd z (by decide), fun z => absurd z h⟩
theorem see_v {x : Int32} {c : Prop} [Decidable c] (hx : sf_B (-128) 127 x) (h : c) (h0 : 0 ≤ x) : (if c then x &&& 255 else -1 : Int32) = x := by
  rw [if_pos h]; exact (by_and hx).2.2.2.2.2.2 h0
theorem tk_di_0 {x : Int32} (h : tk_di x = true) : 0 ≤ x := by
  unfold tk_di at h; rw [decide_eq_true_eq] at h
  have := Int32.le_iff_toInt_le.mp h.1
  exact Int32.le_iff_toInt_le.mpr (Int.le_trans (by decide) this)
theorem tk_le_0 {x : Int32} (h : tk_le x = true) : 0 ≤ x := by
  unfold tk_le at h; rw [decide_eq_true_eq] at h
  have := Int32.le_iff_toInt_le.mp h.1
  exact Int32.le_iff_toInt_le.mpr (Int.le_trans (by decide) this)
def rp179 (a k : Nat) : Prop := a = 41 ∧ (k = 10 ∨ k = 12 ∨ k = 13 ∨ k = 14)
def rc179 (S S' : ex_S) : Prop := ex_fw rp179 S S' ∧ ∀ n b, tr_at S n b → S'.1 41 12 = Int32.ofNat (tk_s (S.1 42) n b) ∧ S'.1 41 10 = Int32.ofNat (tk_e (S.1 42) n b) ∧ S'.1 41 13 = tk_rk (tk_k (S.1 42) n b) ∧ (tk_k (S.1 42) n b = 2 → S'.1 41 14 = tk_v (S.1 42) n b) ∧ (tk_k (S.1 42) n b = 1 → S'.2.1 41 15 = tk_p (S.1 42) n b)
def ri179 (S T : ex_S) : Prop := ex_fw rp179 S T ∧ ∀ n b, tr_at S n b → ∃ i, b ≤ i ∧ i ≤ n ∧ T.1 41 10 = Int32.ofNat i ∧ tk_r tk_bl (S.1 42) n i = tk_s (S.1 42) n b
/-- in a word -/
def rj179 (S : ex_S) (x : Int32) (T : ex_S) : Prop := ex_fw rp179 S T ∧ ∀ n b, tr_at S n b → tk_s (S.1 42) n b < n ∧ tk_le (S.1 42 (tk_s (S.1 42) n b)) = true ∧ T.1 41 12 = Int32.ofNat (tk_s (S.1 42) n b) ∧ ∃ i, tk_s (S.1 42) n b ≤ i ∧ i ≤ n ∧ T.1 41 10 = Int32.ofNat i ∧ tk_r tk_le (S.1 42) n i = tk_r tk_le (S.1 42) n (tk_s (S.1 42) n b) ∧ x = Int32.ofNat (i - tk_s (S.1 42) n b) ∧ T.2.1 41 15 = tk_pf (S.1 42) (tk_s (S.1 42) n b) (i - tk_s (S.1 42) n b)
/-- in a row of digits -/
def rl179 (S : ex_S) (x : Int32) (T : ex_S) : Prop := ex_fw rp179 S T ∧ ∀ n b, tr_at S n b → tk_s (S.1 42) n b < n ∧ ¬ tk_le (S.1 42 (tk_s (S.1 42) n b)) = true ∧ tk_di (S.1 42 (tk_s (S.1 42) n b)) = true ∧ T.1 41 12 = Int32.ofNat (tk_s (S.1 42) n b) ∧ ∃ i, tk_s (S.1 42) n b ≤ i ∧ i ≤ n ∧ T.1 41 10 = Int32.ofNat i ∧ tk_r tk_di (S.1 42) n i = tk_r tk_di (S.1 42) n (tk_s (S.1 42) n b) ∧ x = Int32.ofNat (i - tk_s (S.1 42) n b) ∧ T.1 41 14 = tk_dv (S.1 42) (tk_s (S.1 42) n b) i
theorem ri179_s {S T : ex_S} (hI : ri179 S T) (c1 : ¬ vf180 T = 10) (c2 : ¬ vf180 T = 32) {n b : Nat} (hb : tr_at S n b) : T.1 41 11 = Int32.ofNat n ∧ T.1 41 10 = Int32.ofNat (tk_s (S.1 42) n b) ∧ tk_s (S.1 42) n b ≤ n ∧ n ≤ 600 ∧ (∀ i, T.1 42 i = S.1 42 i) ∧ vf180 (ex_sx T 41 12 (T.1 41 10)) = (if tk_s (S.1 42) n b < n then S.1 42 (tk_s (S.1 42) n b) &&& 255 else -1) ∧ sf_B (-128) 127 (S.1 42 (tk_s (S.1 42) n b)) := by
  obtain ⟨F, hI⟩ := hI
  obtain ⟨i, i1, i2, i3, i4⟩ := hI n b hb
  have hn := hb.2.2.2.1
  have t1 : T.1 41 11 = Int32.ofNat n := (F.1 41 11 (by unfold rp179; decide)).trans hb.1
  have t4 : ∀ j, T.1 42 j = S.1 42 j := fun j => F.1 42 j (by unfold rp179; omega)
  have hx := hb.2.2.2.2 i
  have e := see_at (S := S) hn i2 t1 i3 (t4 i)
  rw [e, see_10 hx] at c1
  rw [e, see_32 hx] at c2
  have es : tk_s (S.1 42) n b = i := by
    rw [← i4]
    refine tk_rn (fun z => ?_)
    have z2 := z.2
    unfold tk_bl at z2
    rw [decide_eq_true_eq] at z2
    rcases z2 with z2 | z2
    · exact c1 ⟨z.1, z2⟩
    · exact c2 ⟨z.1, z2⟩
  rw [es]
  exact ⟨t1, i3, i2, hn, t4, see_at (S := S) (T := ex_sx T 41 12 (T.1 41 10)) hn i2 t1 i3 (t4 i), hx⟩
theorem ec179 : es179 rc179 := by
  refine ev179 (I0 := ri179) (I74 := rj179) (I163 := rl179) ?_ ?_ ?_ ?_ ?_ ?_ ?_ ?_ ?_ ?_ ?_ ?_ ?_ ?_ ?_
  · intro S
    exact ⟨ex_fw.refl _ S, fun n b hb => ⟨b, Nat.le_refl _, hb.2.2.1, hb.2.1, rfl⟩⟩
  · intro S T hI c
    obtain ⟨F, hI⟩ := hI
    refine ⟨F.sx (by unfold rp179; decide), fun n b hb => ?_⟩
    obtain ⟨i, i1, i2, i3, i4⟩ := hI n b hb
    have hn := hb.2.2.2.1
    have t1 : T.1 41 11 = Int32.ofNat n := (F.1 41 11 (by unfold rp179; decide)).trans hb.1
    have t4 : ∀ j, T.1 42 j = S.1 42 j := fun j => F.1 42 j (by unfold rp179; omega)
    rw [see_at (S := S) hn i2 t1 i3 (t4 i), see_10 (hb.2.2.2.2 i)] at c
    refine ⟨i + 1, by omega, by omega, by rw [ex_sx_eq, i3, n32_s], ?_⟩
    rw [← i4, tk_ry c.1 (by rw [c.2]; decide)]
  · intro S T hI c1 c2 c3 c4 c5 c6
    refine ⟨(((hI.1.sx (by unfold rp179; decide)).sy).sx (by unfold rp179; decide)).sx (by unfold rp179; decide), fun n b hb => ?_⟩
    obtain ⟨t1, t2, hs, hn, t4, e, hx⟩ := ri179_s hI c1 c2 hb
    rw [e, see_0 hx] at c3
    rw [e, see_le hx] at c4
    rw [e, see_di hx] at c5
    rw [e, see_59 hx] at c6
    have k0 : tk_k (S.1 42) n b = 4 := by unfold tk_k; rw [if_pos c3, if_neg (fun z => c4 ⟨c3, z⟩), if_neg (fun z => c5 ⟨c3, z⟩), if_neg (fun z => c6 ⟨c3, z⟩)]
    refine ⟨t2, ?_, ?_, fun z => absurd z (by omega), fun z => absurd z (by omega)⟩
    · show T.1 41 10 + 1 = _
      rw [t2, n32_s]; unfold tk_e; rw [if_pos c3, if_neg (fun z => c4 ⟨c3, z⟩), if_neg (fun z => c5 ⟨c3, z⟩)]
    · show (1 : Int32) = _
      rw [k0]; rfl
  · intro S T hI c1 c2 c3 c4 c5 c6
    refine ⟨(((hI.1.sx (by unfold rp179; decide)).sy).sx (by unfold rp179; decide)).sx (by unfold rp179; decide), fun n b hb => ?_⟩
    obtain ⟨t1, t2, hs, hn, t4, e, hx⟩ := ri179_s hI c1 c2 hb
    rw [e, see_0 hx] at c3
    rw [e, see_le hx] at c4
    rw [e, see_di hx] at c5
    rw [e, see_59 hx, Classical.not_not] at c6
    have k0 : tk_k (S.1 42) n b = 3 := by unfold tk_k; rw [if_pos c3, if_neg (fun z => c4 ⟨c3, z⟩), if_neg (fun z => c5 ⟨c3, z⟩), if_pos c6.2]
    refine ⟨t2, ?_, ?_, fun z => absurd z (by omega), fun z => absurd z (by omega)⟩
    · show T.1 41 10 + 1 = _
      rw [t2, n32_s]; unfold tk_e; rw [if_pos c3, if_neg (fun z => c4 ⟨c3, z⟩), if_neg (fun z => c5 ⟨c3, z⟩)]
    · show (4 : Int32) = _
      rw [k0]; rfl
  · intro S T hI c1 c2 c3 c4 c5
    refine ⟨((hI.1.sx (by unfold rp179; decide)).sy).sx (by unfold rp179; decide), fun n b hb => ?_⟩
    obtain ⟨t1, t2, hs, hn, t4, e, hx⟩ := ri179_s hI c1 c2 hb
    rw [e, see_0 hx] at c3
    rw [e, see_le hx] at c4
    rw [e, see_di hx, Classical.not_not] at c5
    refine ⟨c3, fun z => c4 ⟨c3, z⟩, c5.2, t2, _, Nat.le_refl _, hs, t2, rfl, ?_, ?_⟩
    · rw [Nat.sub_self]; rfl
    · show (0 : Int32) = _
      unfold tk_dv; rw [if_pos rfl]
  · intro S T hI c1 c2 c3 c4
    refine ⟨(hI.1.sx (by unfold rp179; decide)).sy, fun n b hb => ?_⟩
    obtain ⟨t1, t2, hs, hn, t4, e, hx⟩ := ri179_s hI c1 c2 hb
    rw [e, see_0 hx] at c3
    rw [e, see_le hx, Classical.not_not] at c4
    refine ⟨c3, c4.2, t2, _, Nat.le_refl _, hs, t2, rfl, ?_, ?_⟩
    · rw [Nat.sub_self]; rfl
    · rw [Nat.sub_self, ex_sy_eq]; rfl
  · intro S T hI c1 c2 c3
    refine ⟨((hI.1.sx (by unfold rp179; decide)).sy).sx (by unfold rp179; decide), fun n b hb => ?_⟩
    obtain ⟨t1, t2, hs, hn, t4, e, hx⟩ := ri179_s hI c1 c2 hb
    rw [e, see_0 hx] at c3
    have k0 : tk_k (S.1 42) n b = 0 := by unfold tk_k; rw [if_neg c3]
    refine ⟨t2, ?_, ?_, fun z => absurd z (by omega), fun z => absurd z (by omega)⟩
    · show T.1 41 10 = _
      rw [t2]; unfold tk_e; rw [if_neg c3]
    · show (0 : Int32) = _
      rw [k0]; rfl
  · intro S T hI c1 c
    obtain ⟨F, hI⟩ := hI
    refine ⟨F.sx (by unfold rp179; decide), fun n b hb => ?_⟩
    obtain ⟨i, i1, i2, i3, i4⟩ := hI n b hb
    have hn := hb.2.2.2.1
    have t1 : T.1 41 11 = Int32.ofNat n := (F.1 41 11 (by unfold rp179; decide)).trans hb.1
    have t4 : ∀ j, T.1 42 j = S.1 42 j := fun j => F.1 42 j (by unfold rp179; omega)
    rw [see_at (S := S) hn i2 t1 i3 (t4 i), see_32 (hb.2.2.2.2 i), Classical.not_not] at c
    refine ⟨i + 1, by omega, by omega, by rw [ex_sx_eq, i3, n32_s], ?_⟩
    rw [← i4, tk_ry c.1 (by rw [c.2]; decide)]
  · intro S x T hI c1 c2
    obtain ⟨F, hI⟩ := hI
    refine ⟨F.sx (by unfold rp179; decide), fun n b hb => ?_⟩
    obtain ⟨ns, nl, hd, t3, i, i1, i2, i3, i4, i5, i6⟩ := hI n b hb
    have hn := hb.2.2.2.1
    have t1 : T.1 41 11 = Int32.ofNat n := (F.1 41 11 (by unfold rp179; decide)).trans hb.1
    have t4 : ∀ j, T.1 42 j = S.1 42 j := fun j => F.1 42 j (by unfold rp179; omega)
    rw [see_at (S := S) hn i2 t1 i3 (t4 i), see_di (hb.2.2.2.2 i)] at c1
    rw [i5, show (2 : Int32) = Int32.ofNat 2 from rfl, n32_le (by omega) (by omega)] at c2
    have e : tk_r tk_di (S.1 42) n (tk_s (S.1 42) n b) = i := by rw [← i4]; exact tk_rn c1
    have k0 : tk_k (S.1 42) n b = 2 := by unfold tk_k; rw [if_pos ns, if_neg nl, if_pos hd, e, if_pos (by omega)]
    refine ⟨t3, ?_, ?_, fun _ => ?_, fun z => absurd z (by omega)⟩
    · show T.1 41 10 = _
      rw [i3]; unfold tk_e; rw [if_pos ns, if_neg nl, if_pos hd, e]
    · show (3 : Int32) = _
      rw [k0]; rfl
    · show T.1 41 14 = _
      rw [i6]; unfold tk_v; rw [e]
  · intro S x T hI c1 c2
    obtain ⟨F, hI⟩ := hI
    refine ⟨F.sx (by unfold rp179; decide), fun n b hb => ?_⟩
    obtain ⟨ns, nl, hd, t3, i, i1, i2, i3, i4, i5, i6⟩ := hI n b hb
    have hn := hb.2.2.2.1
    have t1 : T.1 41 11 = Int32.ofNat n := (F.1 41 11 (by unfold rp179; decide)).trans hb.1
    have t4 : ∀ j, T.1 42 j = S.1 42 j := fun j => F.1 42 j (by unfold rp179; omega)
    rw [see_at (S := S) hn i2 t1 i3 (t4 i), see_di (hb.2.2.2.2 i)] at c1
    rw [i5, show (2 : Int32) = Int32.ofNat 2 from rfl, n32_le (by omega) (by omega)] at c2
    have e : tk_r tk_di (S.1 42) n (tk_s (S.1 42) n b) = i := by rw [← i4]; exact tk_rn c1
    have k0 : tk_k (S.1 42) n b = 4 := by unfold tk_k; rw [if_pos ns, if_neg nl, if_pos hd, e, if_neg (by omega)]
    refine ⟨t3, ?_, ?_, fun z => absurd z (by omega), fun z => absurd z (by omega)⟩
    · show T.1 41 10 = _
      rw [i3]; unfold tk_e; rw [if_pos ns, if_neg nl, if_pos hd, e]
    · show (1 : Int32) = _
      rw [k0]; rfl
  · intro S x T hI c1 c2
    obtain ⟨F, hI⟩ := hI
    refine ⟨(F.sx (by unfold rp179; decide)).sx (by unfold rp179; decide), fun n b hb => ?_⟩
    obtain ⟨ns, nl, hd, t3, i, i1, i2, i3, i4, i5, i6⟩ := hI n b hb
    have hn := hb.2.2.2.1
    have t1 : T.1 41 11 = Int32.ofNat n := (F.1 41 11 (by unfold rp179; decide)).trans hb.1
    have t4 : ∀ j, T.1 42 j = S.1 42 j := fun j => F.1 42 j (by unfold rp179; omega)
    rw [see_at (S := S) hn i2 t1 i3 (t4 i), see_di (hb.2.2.2.2 i), Classical.not_not] at c1
    rw [i5, show (2 : Int32) = Int32.ofNat 2 from rfl, n32_le (by omega) (by omega)] at c2
    refine ⟨ns, nl, hd, t3, i + 1, by omega, by omega, ?_, ?_, ?_, ?_⟩
    · show T.1 41 10 + 1 = _
      rw [i3, n32_s]
    · rw [← i4, tk_ry c1.1 c1.2]
    · rw [i5, n32_s]; congr 1; omega
    · show T.1 41 14 = _
      rw [i6]; unfold tk_dv
      rw [if_neg (by omega), if_neg (by omega), if_neg (by omega), if_neg (by omega)]
  · intro S x T hI c1 c2
    obtain ⟨F, hI⟩ := hI
    refine ⟨(F.sx (by unfold rp179; decide)).sx (by unfold rp179; decide), fun n b hb => ?_⟩
    obtain ⟨ns, nl, hd, t3, i, i1, i2, i3, i4, i5, i6⟩ := hI n b hb
    have hn := hb.2.2.2.1
    have t1 : T.1 41 11 = Int32.ofNat n := (F.1 41 11 (by unfold rp179; decide)).trans hb.1
    have t4 : ∀ j, T.1 42 j = S.1 42 j := fun j => F.1 42 j (by unfold rp179; omega)
    have es := see_at (S := S) hn i2 t1 i3 (t4 i)
    rw [es, see_di (hb.2.2.2.2 i), Classical.not_not] at c1
    rw [i5, show (2 : Int32) = Int32.ofNat 2 from rfl, n32_le (by omega) (by omega)] at c2
    refine ⟨ns, nl, hd, t3, i + 1, by omega, by omega, ?_, ?_, ?_, ?_⟩
    · show T.1 41 10 + 1 = _
      rw [i3, n32_s]
    · rw [← i4, tk_ry c1.1 c1.2]
    · rw [i5, n32_s]; congr 1; omega
    · show 10 * T.1 41 14 + vf180 T - 48 = _
      rw [es, see_v (hb.2.2.2.2 i) c1.1 (tk_di_0 c1.2), i6, Int32.mul_comm]
      unfold tk_dv
      by_cases hi : i = tk_s (S.1 42) n b
      · rw [← hi, if_pos rfl, if_neg (by omega), if_pos rfl]
      · have : i = tk_s (S.1 42) n b + 1 := by omega
        rw [this, if_neg (by omega), if_pos rfl, if_neg (by omega), if_neg (by omega)]
  · intro S x T hI c1 c2
    obtain ⟨F, hI⟩ := hI
    refine ⟨(F.sy).sx (by unfold rp179; decide), fun n b hb => ?_⟩
    obtain ⟨ns, hl, t3, i, i1, i2, i3, i4, i5, i6⟩ := hI n b hb
    have hn := hb.2.2.2.1
    have t1 : T.1 41 11 = Int32.ofNat n := (F.1 41 11 (by unfold rp179; decide)).trans hb.1
    have t4 : ∀ j, T.1 42 j = S.1 42 j := fun j => F.1 42 j (by unfold rp179; omega)
    rw [see_at (S := S) hn i2 t1 i3 (t4 i), see_le (hb.2.2.2.2 i)] at c1
    rw [i5, show (8 : Int32) = Int32.ofNat 8 from rfl, n32_le (by omega) (by omega)] at c2
    have e : tk_r tk_le (S.1 42) n (tk_s (S.1 42) n b) = i := by rw [← i4]; exact tk_rn c1
    have k0 : tk_k (S.1 42) n b = 1 := by unfold tk_k; rw [if_pos ns, if_pos hl]
    refine ⟨t3, ?_, ?_, fun z => absurd z (by omega), fun _ => ?_⟩
    · show T.1 41 10 = _
      rw [i3]; unfold tk_e; rw [if_pos ns, if_pos hl, e]
    · show (2 : Int32) = _
      rw [k0]; rfl
    · show T.2.1 41 15 = _
      rw [i6]; unfold tk_p; rw [e, if_pos (by omega)]
  · intro S x T hI c1 c2
    obtain ⟨F, hI⟩ := hI
    refine ⟨(F.sy).sx (by unfold rp179; decide), fun n b hb => ?_⟩
    obtain ⟨ns, hl, t3, i, i1, i2, i3, i4, i5, i6⟩ := hI n b hb
    have hn := hb.2.2.2.1
    have t1 : T.1 41 11 = Int32.ofNat n := (F.1 41 11 (by unfold rp179; decide)).trans hb.1
    have t4 : ∀ j, T.1 42 j = S.1 42 j := fun j => F.1 42 j (by unfold rp179; omega)
    rw [see_at (S := S) hn i2 t1 i3 (t4 i), see_le (hb.2.2.2.2 i)] at c1
    rw [i5, show (8 : Int32) = Int32.ofNat 8 from rfl, n32_le (by omega) (by omega)] at c2
    have e : tk_r tk_le (S.1 42) n (tk_s (S.1 42) n b) = i := by rw [← i4]; exact tk_rn c1
    have k0 : tk_k (S.1 42) n b = 1 := by unfold tk_k; rw [if_pos ns, if_pos hl]
    refine ⟨t3, ?_, ?_, fun z => absurd z (by omega), fun _ => ?_⟩
    · show T.1 41 10 = _
      rw [i3]; unfold tk_e; rw [if_pos ns, if_pos hl, e]
    · show (2 : Int32) = _
      rw [k0]; rfl
    · show (0 : Int64) = _
      unfold tk_p; rw [e, if_neg (by omega)]
  · intro S x T hI c1
    obtain ⟨F, hI⟩ := hI
    refine ⟨(F.sy).sx (by unfold rp179; decide), fun n b hb => ?_⟩
    obtain ⟨ns, hl, t3, i, i1, i2, i3, i4, i5, i6⟩ := hI n b hb
    have hn := hb.2.2.2.1
    have t1 : T.1 41 11 = Int32.ofNat n := (F.1 41 11 (by unfold rp179; decide)).trans hb.1
    have t4 : ∀ j, T.1 42 j = S.1 42 j := fun j => F.1 42 j (by unfold rp179; omega)
    have es := see_at (S := S) hn i2 t1 i3 (t4 i)
    rw [es, see_le (hb.2.2.2.2 i), Classical.not_not] at c1
    refine ⟨ns, hl, t3, i + 1, by omega, by omega, ?_, ?_, ?_, ?_⟩
    · show T.1 41 10 + 1 = _
      rw [i3, n32_s]
    · rw [← i4, tk_ry c1.1 c1.2]
    · rw [i5, n32_s]; congr 1; omega
    · show (T.2.1 41 15 <<< ((8 : Int32).toInt64 &&& 63)) ||| (vf180 T).toInt64 = _
      rw [es, see_v (hb.2.2.2.2 i) c1.1 (tk_le_0 c1.2), i6, show i + 1 - tk_s (S.1 42) n b = (i - tk_s (S.1 42) n b) + 1 by omega]
      show _ = (tk_pf _ _ _ <<< _) ||| (S.1 42 (tk_s (S.1 42) n b + (i - tk_s (S.1 42) n b))).toInt64
      rw [show tk_s (S.1 42) n b + (i - tk_s (S.1 42) n b) = i by omega]
