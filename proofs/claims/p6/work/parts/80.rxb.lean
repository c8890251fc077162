/-- actWord -/
def rp188 (a k : Nat) : Prop := (a = 41 ∧ (k = 10 ∨ k = 12 ∨ k = 13 ∨ k = 14 ∨ k = 16)) ∨ (a = 52 ∧ k = 3)
def rc188 (S : ex_S) (v : Int32) (S' : ex_S) : Prop := ex_fw rp188 S S' ∧ ∀ n b, rtok S n b → (pws 10 (S.1 42) n b = -1 → v = 0 ∧ S'.1 41 16 = Int32.ofNat (tk_s (S.1 42) n b)) ∧ (pws 10 (S.1 42) n b ≠ -1 → v = 1 ∧ rtok S' n (tk_e (S.1 42) n b) ∧ S'.1 52 3 = pws 10 (S.1 42) n b)
theorem ac_le : ∀ i : Fin 23, i.val ≠ 4 → i.val ≠ 9 → i.val ≠ 14 → i.val ≠ 19 → tk_le (ex_st 14 i.val) = true := by decide +kernel
/-- the five ACTS, packed -/
theorem ac_w {S : ex_S} {n b : Nat} (h : rtok S n b) (hk : S.1 41 13 = 2) : (lg_cmp (S.2.1 41 15) 1751474532 = 0 ↔ sp_b (ex_st 14) (S.1 42) 0 4 (tk_s (S.1 42) n b) (tk_e (S.1 42) n b) = true) ∧ (lg_cmp (S.2.1 41 15) 1952541036 = 0 ↔ sp_b (ex_st 14) (S.1 42) 5 9 (tk_s (S.1 42) n b) (tk_e (S.1 42) n b) = true) ∧ (lg_cmp (S.2.1 41 15) 1886156147 = 0 ↔ sp_b (ex_st 14) (S.1 42) 10 14 (tk_s (S.1 42) n b) (tk_e (S.1 42) n b) = true) ∧ (lg_cmp (S.2.1 41 15) 1818588019 = 0 ↔ sp_b (ex_st 14) (S.1 42) 15 19 (tk_s (S.1 42) n b) (tk_e (S.1 42) n b) = true) ∧ (lg_cmp (S.2.1 41 15) 7237492 = 0 ↔ sp_b (ex_st 14) (S.1 42) 20 23 (tk_s (S.1 42) n b) (tk_e (S.1 42) n b) = true) := by
  have k1 : tk_k (S.1 42) n b = 1 := (h.k (k := 1) (by decide)).mp hk
  have e := h.2.2.2.2.2.2.2.2 k1
  rw [e]
  refine ⟨?_, ?_, ?_, ?_, ?_⟩
  · rw [lg_0, show (1751474532 : Int64) = tk_pf (ex_st 14) 0 (4 - 0) by decide +kernel]
    exact tk_p_eq k1 h.2.1 (by decide) (by decide) (fun i hi => ac_le ⟨0 + i, by omega⟩ (by show 0 + i ≠ 4; omega) (by show 0 + i ≠ 9; omega) (by show 0 + i ≠ 14; omega) (by show 0 + i ≠ 19; omega))
  · rw [lg_0, show (1952541036 : Int64) = tk_pf (ex_st 14) 5 (9 - 5) by decide +kernel]
    exact tk_p_eq k1 h.2.1 (by decide) (by decide) (fun i hi => ac_le ⟨5 + i, by omega⟩ (by show 5 + i ≠ 4; omega) (by show 5 + i ≠ 9; omega) (by show 5 + i ≠ 14; omega) (by show 5 + i ≠ 19; omega))
  · rw [lg_0, show (1886156147 : Int64) = tk_pf (ex_st 14) 10 (14 - 10) by decide +kernel]
    exact tk_p_eq k1 h.2.1 (by decide) (by decide) (fun i hi => ac_le ⟨10 + i, by omega⟩ (by show 10 + i ≠ 4; omega) (by show 10 + i ≠ 9; omega) (by show 10 + i ≠ 14; omega) (by show 10 + i ≠ 19; omega))
  · rw [lg_0, show (1818588019 : Int64) = tk_pf (ex_st 14) 15 (19 - 15) by decide +kernel]
    exact tk_p_eq k1 h.2.1 (by decide) (by decide) (fun i hi => ac_le ⟨15 + i, by omega⟩ (by show 15 + i ≠ 4; omega) (by show 15 + i ≠ 9; omega) (by show 15 + i ≠ 14; omega) (by show 15 + i ≠ 19; omega))
  · rw [lg_0, show (7237492 : Int64) = tk_pf (ex_st 14) 20 (23 - 20) by decide +kernel]
    exact tk_p_eq k1 h.2.1 (by decide) (by decide) (fun i hi => ac_le ⟨20 + i, by omega⟩ (by show 20 + i ≠ 4; omega) (by show 20 + i ≠ 9; omega) (by show 20 + i ≠ 14; omega) (by show 20 + i ≠ 19; omega))
theorem rc188_no {S U : ex_S} {r : Int32} (hU : rc184 (ex_sx S 52 3 (-1)) r U) (hw : ∀ n b, rtok S n b → pws 10 (S.1 42) n b = -1) : rc188 S r U := by
  obtain ⟨rfl, rfl⟩ := hU
  refine ⟨((ex_fw.refl _ S).sx (by unfold rp188; omega)).sx (by unfold rp188; omega), fun n b h => ⟨fun _ => ⟨rfl, ?_⟩, fun z => absurd (hw n b h) z⟩⟩
  rw [ex_sx_eq, ex_sx_ne (by omega), h.2.2.2.2.1]
theorem rc188_yes {S U : ex_S} {x : Int32} (hx : x ≠ -1) (hU : rc179 (ex_sx S 52 3 x) U) (hw : ∀ n b, rtok S n b → pws 10 (S.1 42) n b = x) : rc188 S 1 U := by
  refine ⟨((ex_fw.refl _ S).sx (by unfold rp188; omega)).trans (hU.1.mono (fun a k z => by unfold rp179 at z; unfold rp188; omega)), fun n b h => ⟨fun z => absurd ((hw n b h).symm.trans z) hx, fun _ => ⟨rfl, ?_, ?_⟩⟩⟩
  · have t : tr_at (ex_sx S 52 3 x) n (tk_e (S.1 42) n b) := h.at
    exact hU.tok t
  · rw [hU.1.1 52 3 (by unfold rp179; omega), ex_sx_eq, hw n b h]
theorem ec188 : es188 rc188 := by
  have P : ∀ {S : ex_S} {n b : Nat}, rtok S n b → S.1 41 13 = 2 → pws 10 (S.1 42) n b = wa 10 (fun f l => sp_b (ex_st 14) (S.1 42) f l (tk_s (S.1 42) n b) (tk_e (S.1 42) n b)) := by
    intro S n b h hk
    unfold pws
    rw [if_pos ((h.k (k := 1) (by decide)).mp hk)]
  refine ev188 ec179 ec184 ?_ ?_ ?_ ?_ ?_ ?_ ?_
  · intro S c r U hU
    refine rc188_no hU (fun n b h => ?_)
    unfold pws
    rw [if_neg (fun z => c ((h.k (k := 1) (by decide)).mpr z))]
  · intro S c c1 c2 c3 c4 c5 r U hU
    have c := Classical.not_not.mp c
    refine rc188_no hU (fun n b h => ?_)
    obtain ⟨a1, a2, a3, a4, a5⟩ := ac_w h c
    rw [P h c, wa_10, if_neg (fun z => c1 (a1.mpr z)), if_neg (fun z => c2 (a2.mpr z)), if_neg (fun z => c3 (a3.mpr z)), if_neg (fun z => c4 (a4.mpr z)), if_neg (fun z => c5 (a5.mpr z))]
  · intro S c c1 c2 c3 c4 c5 U hU
    have c := Classical.not_not.mp c
    refine rc188_yes (by decide) hU (fun n b h => ?_)
    obtain ⟨a1, a2, a3, a4, a5⟩ := ac_w h c
    rw [P h c, wa_10, if_neg (fun z => c1 (a1.mpr z)), if_neg (fun z => c2 (a2.mpr z)), if_neg (fun z => c3 (a3.mpr z)), if_neg (fun z => c4 (a4.mpr z)), if_pos (a5.mp (Classical.not_not.mp c5))]
  · intro S c c1 c2 c3 c4 U hU
    have c := Classical.not_not.mp c
    refine rc188_yes (by decide) hU (fun n b h => ?_)
    obtain ⟨a1, a2, a3, a4, a5⟩ := ac_w h c
    rw [P h c, wa_10, if_neg (fun z => c1 (a1.mpr z)), if_neg (fun z => c2 (a2.mpr z)), if_neg (fun z => c3 (a3.mpr z)), if_pos (a4.mp (Classical.not_not.mp c4))]
  · intro S c c1 c2 c3 U hU
    have c := Classical.not_not.mp c
    refine rc188_yes (by decide) hU (fun n b h => ?_)
    obtain ⟨a1, a2, a3, a4, a5⟩ := ac_w h c
    rw [P h c, wa_10, if_neg (fun z => c1 (a1.mpr z)), if_neg (fun z => c2 (a2.mpr z)), if_pos (a3.mp (Classical.not_not.mp c3))]
  · intro S c c1 c2 U hU
    have c := Classical.not_not.mp c
    refine rc188_yes (by decide) hU (fun n b h => ?_)
    obtain ⟨a1, a2, a3, a4, a5⟩ := ac_w h c
    rw [P h c, wa_10, if_neg (fun z => c1 (a1.mpr z)), if_pos (a2.mp (Classical.not_not.mp c2))]
  · intro S c c1 U hU
    have c := Classical.not_not.mp c
    refine rc188_yes (by decide) hU (fun n b h => ?_)
    obtain ⟨a1, a2, a3, a4, a5⟩ := ac_w h c
    rw [P h c, wa_10, if_pos (a1.mp (Classical.not_not.mp c1))]
/-- a NUMBER is 0 to 99 -/
theorem tk_di_b {x : Int32} (h : tk_di x = true) : 48 ≤ x.toInt ∧ x.toInt ≤ 57 := by
  unfold tk_di at h
  rw [decide_eq_true_eq] at h
  exact ⟨Int32.le_iff_toInt_le.mp h.1, Int32.le_iff_toInt_le.mp h.2⟩
theorem tk_v_b {T : Nat → Int32} {n b : Nat} (h : tk_k T n b = 2) : 0 ≤ (tk_v T n b).toInt ∧ (tk_v T n b).toInt ≤ 99 := by
  have hs : tk_s T n b < n := (tk_e_gt (T := T) (n := n) (b := b) (by omega)).2
  have hd : tk_di (T (tk_s T n b)) = true ∧ tk_r tk_di T n (tk_s T n b) ≤ tk_s T n b + 2 := by
    unfold tk_k at h
    rw [if_pos hs] at h
    split at h
    · cases h
    · split at h
      · rename_i hd
        split at h
        · rename_i h2; exact ⟨hd, h2⟩
        · cases h
      · split at h <;> cases h
  have g1 := tk_r_lt hs hd.1
  have d0 := tk_di_b hd.1
  have a1 : (0 * 10 + T (tk_s T n b) - 48 : Int32).toInt = (T (tk_s T n b)).toInt - 48 := by
    have z : (0 * 10 : Int32) = 0 := by decide
    rw [z, Int32.zero_add]
    exact Jvm.Kit.i32_sub (by show _ ≤ _ - (48 : Int); omega) (by show _ - (48 : Int) < _; omega)
  unfold tk_v tk_dv
  rw [if_neg (by omega)]
  by_cases h1 : tk_r tk_di T n (tk_s T n b) = tk_s T n b + 1
  · rw [if_pos h1, a1]; omega
  · rw [if_neg h1]
    have d1 := tk_di_b (tk_r_all (p := tk_di) (T := T) (n := n) (i := tk_s T n b) (j := tk_s T n b + 1) (by omega) (by omega))
    have a2 : ((0 * 10 + T (tk_s T n b) - 48) * 10 : Int32).toInt = ((T (tk_s T n b)).toInt - 48) * 10 := by
      have := Jvm.Kit.i32_mul (x := 0 * 10 + T (tk_s T n b) - 48) (y := 10) (by rw [a1]; show _ ≤ _ * (10 : Int); omega) (by rw [a1]; show _ * (10 : Int) < _; omega)
      rw [this, a1]; rfl
    have a3 : ((0 * 10 + T (tk_s T n b) - 48) * 10 + T (tk_s T n b + 1) : Int32).toInt = ((T (tk_s T n b)).toInt - 48) * 10 + (T (tk_s T n b + 1)).toInt := by
      have := Jvm.Kit.i32_add (x := (0 * 10 + T (tk_s T n b) - 48) * 10) (y := T (tk_s T n b + 1)) (by rw [a2]; omega) (by rw [a2]; omega)
      rw [this, a2]
    have a4 : ((0 * 10 + T (tk_s T n b) - 48) * 10 + T (tk_s T n b + 1) - 48 : Int32).toInt = ((T (tk_s T n b)).toInt - 48) * 10 + (T (tk_s T n b + 1)).toInt - 48 := by
      have := Jvm.Kit.i32_sub (x := (0 * 10 + T (tk_s T n b) - 48) * 10 + T (tk_s T n b + 1)) (y := 48) (by rw [a3]; show _ ≤ _ - (48 : Int); omega) (by rw [a3]; show _ - (48 : Int) < _; omega)
      rw [this, a3]; rfl
    rw [a4]; omega
theorem rb_plain {w j : Nat} {l : Nat → Int32} {v most : Int32} (hv : 0 ≤ v.toInt) (hg : pgr w j = most) (h3 : w ≠ 3) (h24 : ¬ ((w = 2 ∨ w = 4) ∧ j = 1)) (hl : l j = v) : rbad most (-1) v = pbad w j l := by
  have nv : ¬ v = -1 := fun z => by
    rw [z] at hv
    have e1 : (-1 : Int32).toInt = -1 := rfl
    omega
  unfold rbad pbad
  rw [hg, hl, decide_eq_false h3]
  have e : ((decide (w = 2) || decide (w = 4)) && (decide (j = 1) && decide (l 1 = l 0))) = false := by
    cases hx : ((decide (w = 2) || decide (w = 4)) && (decide (j = 1) && decide (l 1 = l 0))) with
    | false => rfl
    | true =>
      simp only [Bool.and_eq_true, Bool.or_eq_true, decide_eq_true_eq] at hx
      exact absurd ⟨hx.1, hx.2.1⟩ h24
  rw [e, Bool.false_and, Bool.or_false, Bool.or_false]
  by_cases h : most < v
  · rw [decide_eq_true h, decide_eq_true (Or.inl h)]
  · rw [decide_eq_false h, decide_eq_false (fun z => z.elim h nv)]
theorem rb_self {w : Nat} {l : Nat → Int32} {v most but : Int32} (hg : pgr w 1 = most) (h24 : w = 2 ∨ w = 4) (hl : l 1 = v) (h0 : l 0 = but) : rbad most but v = pbad w 1 l := by
  unfold rbad pbad
  rw [hg, hl, h0, decide_eq_false (show ¬ w = 3 by omega), Bool.false_and, Bool.false_or]
  have e : (decide (w = 2) || decide (w = 4)) = true := by simp only [Bool.or_eq_true, decide_eq_true_eq]; exact h24
  rw [e, Bool.true_and, decide_eq_true (rfl : (1 : Nat) = 1), Bool.true_and]
  by_cases h : most < v
  · rw [decide_eq_true h, decide_eq_true (Or.inl h), Bool.true_or]
  · rw [decide_eq_false h, Bool.false_or]
    by_cases hb : v = but
    · rw [decide_eq_true hb, decide_eq_true (Or.inr hb)]
    · rw [decide_eq_false hb, decide_eq_false (fun z => z.elim h hb)]
/-- behind j NUMBERS of a line -/
def rn (S : ex_S) (T : Nat → Int32) (n w b j off : Nat) (A : pA) : Prop := S.1 42 = T ∧ rtok S n (nb T n b j) ∧ rqf S (pan T n w b A j) (tk_s T n (nb T n b j)) ∧ (∀ i, i < j → S.1 52 (off + i) = tk_v T n (nb T n b i)) ∧ pl_f T n (pnl w - j) (nb T n b j) = pl_f T n (pnl w) b ∧ (S.1 41 22 = 0 → pf (pan T n w b A j) ≠ 0)
theorem pnote_tr {A : pA} {f p : Int32} (hf : f ≠ 0) : pf (pnote A true f p) ≠ 0 := by
  unfold pnote
  by_cases h0 : pf A = 0
  · rw [if_pos ⟨h0, rfl⟩]; exact hf
  · rw [if_neg (fun z => h0 z.1)]; exact h0
theorem rn.take {S S' : ex_S} {T : Nat → Int32} {n w b j off : Nat} {A : pA} {k most but v : Int32} (h : rn S T n w b j off A) (ht : rc183 k most but S v S') (hj : j < pnl w) (hk : k = Int32.ofNat (off + j)) (ho : off + j < 4) (hb : tk_k T n (nb T n b j) = 2 → rbad most but (tk_v T n (nb T n b j)) = pbad w j (pll T n w b)) : (v = 0 → ∃ p, pl_f T n (pnl w) b = some p ∧ S'.1 41 16 = Int32.ofNat p) ∧ (v ≠ 0 → v = 1 ∧ rn S' T n w b (j + 1) off A) := by
  obtain ⟨e, t, r, rd, pl, gd⟩ := h
  obtain ⟨g1, g2⟩ := ht.2 n (nb T n b j) t
  rw [e] at g1 g2
  by_cases k2 : tk_k T n (nb T n b j) = 2
  · obtain ⟨h1, h2, h3, h4, h5, h6⟩ := g2 k2
    refine ⟨fun z => absurd (h1.symm.trans z) (by decide), fun _ => ⟨h1, ?_⟩⟩
    have hb := hb k2
    have gt := tk_e_gt (T := T) (n := n) (b := nb T n b j) (by omega)
    have gs := tk_s_ge (T := T) (n := n) (b := tk_e T n (nb T n b j))
    refine ⟨?_, h2, ?_, fun i hi => ?_, by rw [← pl, pl_fy hj k2], fun z => ?_⟩
    · funext i; rw [ht.1.1 42 i (by unfold rp183; omega), e]
    · have := h6 _ r
      rw [hb] at this
      exact this.keep rfl rfl (by show _ ≤ tk_s T n (tk_e T n (nb T n b j)); omega)
    · rw [h3, hk, n32_tn (by omega)]
      by_cases hij : i = j
      · rw [if_pos (by omega), hij]
      · rw [if_neg (by omega)]; exact rd i (by omega)
    · show pf (pnote (pan T n w b A j) (pbad w j (pll T n w b)) 2 _) ≠ 0
      cases hc : pbad w j (pll T n w b) with
      | true => exact pnote_tr (by decide)
      | false =>
        rw [pnote_f]
        exact gd ((h5 (hb.trans hc)).1.symm.trans z)
  · obtain ⟨h1, h2⟩ := g1 k2
    refine ⟨fun _ => ⟨_, ?_, h2⟩, fun z => absurd h1 z⟩
    rw [← pl, pl_fn hj k2]
theorem pll_lt {T : Nat → Int32} {n w b j : Nat} (h : j < pnl w) : pll T n w b j = tk_v T n (nb T n b j) := by unfold pll; rw [if_pos h]
/-- the plain tests of a line's numbers -/
theorem rn.tp {S S' : ex_S} {T : Nat → Int32} {n w b j off : Nat} {A : pA} {k most v : Int32} (h : rn S T n w b j off A) (ht : rc183 k most (-1) S v S') (hj : j < pnl w) (hk : k = Int32.ofNat (off + j)) (ho : off + j < 4) (hg : pgr w j = most) (h3 : w ≠ 3) (h24 : ¬ ((w = 2 ∨ w = 4) ∧ j = 1)) : (v = 0 → ∃ p, pl_f T n (pnl w) b = some p ∧ S'.1 41 16 = Int32.ofNat p) ∧ (v ≠ 0 → v = 1 ∧ rn S' T n w b (j + 1) off A) :=
  h.take ht hj hk ho (fun k2 => rb_plain (tk_v_b k2).1 hg h3 h24 (pll_lt hj))
theorem rn.ts {S S' : ex_S} {T : Nat → Int32} {n w b off : Nat} {A : pA} {k most but v : Int32} (h : rn S T n w b 1 off A) (ht : rc183 k most but S v S') (hj : 1 < pnl w) (hk : k = Int32.ofNat (off + 1)) (ho : off + 1 < 4) (hg : pgr w 1 = most) (h24 : w = 2 ∨ w = 4) (hbut : but = S.1 52 off) : (v = 0 → ∃ p, pl_f T n (pnl w) b = some p ∧ S'.1 41 16 = Int32.ofNat p) ∧ (v ≠ 0 → v = 1 ∧ rn S' T n w b 2 off A) :=
  h.take ht hj hk ho (fun k2 => rb_self hg h24 (pll_lt hj) (by rw [pll_lt (by omega), hbut]; exact (h.2.2.2.1 0 (by decide)).symm))
