/-! THE REFERENCE'S LINES -/
/-- its token is the one behind b -/
def rtok (S : ex_S) (n b : Nat) : Prop := S.1 41 11 = Int32.ofNat n ∧ b ≤ n ∧ n ≤ 600 ∧ (∀ i, sf_B (-128) 127 (S.1 42 i)) ∧ S.1 41 12 = Int32.ofNat (tk_s (S.1 42) n b) ∧ S.1 41 10 = Int32.ofNat (tk_e (S.1 42) n b) ∧ S.1 41 13 = tk_rk (tk_k (S.1 42) n b) ∧ (tk_k (S.1 42) n b = 2 → S.1 41 14 = tk_v (S.1 42) n b) ∧ (tk_k (S.1 42) n b = 1 → S.2.1 41 15 = tk_p (S.1 42) n b)
theorem rtok.at {S : ex_S} {n b : Nat} (h : rtok S n b) : tr_at S n (tk_e (S.1 42) n b) := ⟨h.1, h.2.2.2.2.2.1, tk_e_le h.2.1, h.2.2.1, h.2.2.2.1⟩
theorem rc179.t42 {S S' : ex_S} (h : rc179 S S') : S'.1 42 = S.1 42 := by funext j; exact h.1.1 42 j (by unfold rp179; omega)
theorem rc179.tok {S S' : ex_S} {n b : Nat} (h : rc179 S S') (hb : tr_at S n b) : rtok S' n b := by
  have e := h.t42
  obtain ⟨F, h⟩ := h
  obtain ⟨h1, h2, h3, h4, h5⟩ := h n b hb
  unfold rtok
  rw [e]
  exact ⟨(F.1 41 11 (by unfold rp179; omega)).trans hb.1, hb.2.2.1, hb.2.2.2.1, hb.2.2.2.2, h1, h2, h3, h4, h5⟩
/-- what is kept of a token when other things are written -/
theorem rtok.keep {S S' : ex_S} {n b : Nat} (h : rtok S n b) (h1 : ∀ k, 10 ≤ k → k ≤ 14 → S'.1 41 k = S.1 41 k) (h2 : ∀ i, S'.1 42 i = S.1 42 i) (h3 : S'.2.1 41 15 = S.2.1 41 15) : rtok S' n b := by
  have e : S'.1 42 = S.1 42 := funext h2
  unfold rtok at h ⊢
  rw [e, h1 11 (by decide) (by decide), h1 12 (by decide) (by decide), h1 10 (by decide) (by decide), h1 13 (by decide) (by decide), h1 14 (by decide) (by decide), h3]
  exact h
theorem tk_rk_inj {j k : Nat} (hj : j ≤ 4) (hk : k ≤ 4) (h : tk_rk j = tk_rk k) : j = k := by
  have d : ∀ j k : Fin 5, tk_rk j.val = tk_rk k.val → j.val = k.val := by decide
  exact d ⟨j, by omega⟩ ⟨k, by omega⟩ h
theorem rtok.k {S : ex_S} {n b k : Nat} (h : rtok S n b) (hk : k ≤ 4) : S.1 41 13 = tk_rk k ↔ tk_k (S.1 42) n b = k := by
  rw [h.2.2.2.2.2.2.1]
  exact ⟨fun z => tk_rk_inj tk_k4 hk z, fun z => by rw [z]⟩
/-- later -/
def rc182 (f p : Int32) (S S' : ex_S) : Prop := S' = if S.1 41 17 = 0 ∨ p < S.1 41 18 ∨ (p = S.1 41 18 ∧ f < S.1 41 17) then ex_sx (ex_sx S 41 17 f) 41 18 p else S
theorem ec182 : es182 rc182 := by
  refine ev182 ?_ ?_ ?_ ?_ ?_
  · intro f p S c; exact (if_pos (Or.inl c)).symm
  · intro f p S c c1; exact (if_pos (Or.inr (Or.inl c1))).symm
  · intro f p S c c1 c2; exact (if_neg (fun z => z.elim c (fun y => y.elim c1 (fun x => c2 x.1)))).symm
  · intro f p S c c1 c2 c3; exact (if_neg (fun z => z.elim c (fun y => y.elim c1 (fun x => Int32.not_lt.mpr c3 x.2)))).symm
  · intro f p S c c1 c2 c3; exact (if_pos (Or.inr (Or.inr ⟨Classical.not_not.mp c2, Int32.not_le.mp c3⟩))).symm
def rp182 (a k : Nat) : Prop := a = 41 ∧ (k = 17 ∨ k = 18)
theorem rc182.fw {f p : Int32} {S S' : ex_S} (h : rc182 f p S S') : ex_fw rp182 S S' := by
  unfold rc182 at h
  rw [h]; split
  · exact ((ex_fw.refl _ S).sx (by unfold rp182; omega)).sx (by unfold rp182; omega)
  · exact ex_fw.refl _ S
/-- the first FAULT so far; it lies ahead of place m -/
def rqf (S : ex_S) (A : pA) (m : Nat) : Prop := S.1 41 17 = pf A ∧ (pf A ≠ 0 → S.1 41 18 = pp A ∧ ∃ p, pp A = Int32.ofNat p ∧ p < m)
theorem rqf.keep {S S' : ex_S} {A : pA} {m m' : Nat} (h : rqf S A m) (h1 : S'.1 41 17 = S.1 41 17) (h2 : S'.1 41 18 = S.1 41 18) (hm : m ≤ m') : rqf S' A m' := by
  obtain ⟨a, b⟩ := h
  refine ⟨h1.trans a, fun z => ?_⟩
  obtain ⟨b1, p, b2, b3⟩ := b z
  exact ⟨h2.trans b1, p, b2, by omega⟩
theorem rc182.note {f : Int32} {q : Nat} {S S' : ex_S} {A : pA} (h : rc182 f (Int32.ofNat q) S S') (r : rqf S A q) (hq : q ≤ 600) (hf : f ≠ 0) : rqf S' (pnote A true f (Int32.ofNat q)) (q + 1) := by
  unfold rc182 at h
  unfold pnote
  by_cases h0 : pf A = 0
  · rw [if_pos ⟨h0, rfl⟩]
    rw [if_pos (Or.inl (r.1.trans h0))] at h
    subst h
    exact ⟨rfl, fun _ => ⟨rfl, q, rfl, by omega⟩⟩
  · rw [if_neg (fun z => h0 z.1)]
    obtain ⟨b1, p, b2, b3⟩ := r.2 h0
    rw [if_neg] at h
    · rw [h]; exact r.keep rfl rfl (by omega)
    · intro z
      rw [b1, b2] at z
      rcases z with z | z | z
      · exact h0 (r.1.symm.trans z)
      · rw [n32_lt (by omega) (by omega)] at z; omega
      · have := (n32_eq (by omega) (by omega)).mp z.1; omega
/-- stops -/
def rc184 (S : ex_S) (v : Int32) (S' : ex_S) : Prop := v = 0 ∧ S' = ex_sx S 41 16 (S.1 41 12)
theorem ec184 : es184 rc184 := ev184 (fun _ => ⟨rfl, rfl⟩)
/-- take -/
def rp183 (a k : Nat) : Prop := (a = 41 ∧ ((10 ≤ k ∧ k ≤ 18 ∧ k ≠ 11) ∨ k = 22)) ∨ a = 52
theorem rp179_183 : ∀ a k, rp179 a k → rp183 a k := fun a k z => by unfold rp179 at z; unfold rp183; omega
theorem rp182_183 : ∀ a k, rp182 a k → rp183 a k := fun a k z => by unfold rp182 at z; unfold rp183; omega
def rbad (most but v : Int32) : Bool := decide (most < v ∨ v = but)
/-- how later(2, p) changes the first FAULT -/
def rl2 (S S' : ex_S) (p : Int32) : Prop := ((S.1 41 17 = 0 ∨ p < S.1 41 18 ∨ (p = S.1 41 18 ∧ 2 < S.1 41 17)) → S'.1 41 17 = 2 ∧ S'.1 41 18 = p) ∧ (¬ (S.1 41 17 = 0 ∨ p < S.1 41 18 ∨ (p = S.1 41 18 ∧ 2 < S.1 41 17)) → S'.1 41 17 = S.1 41 17 ∧ S'.1 41 18 = S.1 41 18)
def rc183 (k most but : Int32) (S : ex_S) (v : Int32) (S' : ex_S) : Prop := ex_fw rp183 S S' ∧ ∀ n b, rtok S n b → (tk_k (S.1 42) n b ≠ 2 → v = 0 ∧ S'.1 41 16 = Int32.ofNat (tk_s (S.1 42) n b)) ∧ (tk_k (S.1 42) n b = 2 → v = 1 ∧ rtok S' n (tk_e (S.1 42) n b) ∧ (∀ j, S'.1 52 j = if j = k.toNatClampNeg then tk_v (S.1 42) n b else S.1 52 j) ∧ (rbad most but (tk_v (S.1 42) n b) = true → S'.1 41 22 = 0 ∧ rl2 S S' (Int32.ofNat (tk_s (S.1 42) n b))) ∧ (rbad most but (tk_v (S.1 42) n b) = false → S'.1 41 22 = S.1 41 22 ∧ S'.1 41 17 = S.1 41 17 ∧ S'.1 41 18 = S.1 41 18) ∧ ∀ A, rqf S A (tk_s (S.1 42) n b) → rqf S' (pnote A (rbad most but (tk_v (S.1 42) n b)) 2 (Int32.ofNat (tk_s (S.1 42) n b))) (tk_s (S.1 42) n b + 1))
/-- a bad NUMBER is noted, and the next token seen -/
theorem rc183_bad {k most but : Int32} {S U V : ex_S} (c1 : S.1 41 13 = 3) (cb : rbad most but (S.1 41 14) = true) (hU : rc182 2 (S.1 41 12) (ex_sx S 52 k.toNatClampNeg (S.1 41 14)) U) (hV : rc179 (ex_sx U 41 22 0) V) : rc183 k most but S 1 V := by
  have F1 : ex_fw rp183 S (ex_sx S 52 k.toNatClampNeg (S.1 41 14)) := (ex_fw.refl _ S).sx (by unfold rp183; omega)
  have F2 : ex_fw rp183 S (ex_sx U 41 22 0) := (F1.trans (hU.fw.mono rp182_183)).sx (by unfold rp183; omega)
  refine ⟨F2.trans (hV.1.mono rp179_183), fun n b h => ?_⟩
  have k2 : tk_k (S.1 42) n b = 2 := (h.k (by decide)).mp c1
  refine ⟨fun z => absurd k2 z, fun _ => ?_⟩
  have ev := h.2.2.2.2.2.2.2.1 k2
  rw [ev] at cb
  have e42 : (ex_sx U 41 22 0).1 42 = S.1 42 := by funext j; exact F2.1 42 j (by unfold rp183; omega)
  have t : tr_at (ex_sx U 41 22 0) n (tk_e (S.1 42) n b) := by
    have t := h.at
    refine ⟨?_, ?_, t.2.2.1, t.2.2.2.1, fun i => by rw [e42]; exact t.2.2.2.2 i⟩
    · rw [ex_sx_ne (by omega), hU.fw.1 41 11 (by unfold rp182; omega), ex_sx_ne (by omega)]; exact t.1
    · rw [ex_sx_ne (by omega), hU.fw.1 41 10 (by unfold rp182; omega), ex_sx_ne (by omega)]; exact t.2.1
  refine ⟨rfl, hV.tok t, fun j => ?_, fun _ => ?_, fun z => (by rw [cb] at z; cases z), fun A r => ?_⟩
  · rw [hV.1.1 52 j (by unfold rp179; omega), ex_sx_ne (by omega), hU.fw.1 52 j (by unfold rp182; omega), ex_sx_at, ev]
    by_cases hj : j = k.toNatClampNeg
    · rw [if_pos ⟨rfl, hj⟩, if_pos hj]
    · rw [if_neg (fun z => hj z.2), if_neg hj]
  · refine ⟨by rw [hV.1.1 41 22 (by unfold rp179; omega), ex_sx_eq], ?_⟩
    have z17 : V.1 41 17 = U.1 41 17 := by rw [hV.1.1 41 17 (by unfold rp179; omega), ex_sx_ne (by omega)]
    have z18 : V.1 41 18 = U.1 41 18 := by rw [hV.1.1 41 18 (by unfold rp179; omega), ex_sx_ne (by omega)]
    have hU' : U = _ := hU
    rw [h.2.2.2.2.1] at hU'
    unfold rl2
    rw [z17, z18]
    refine ⟨fun c => ?_, fun c => ?_⟩
    · rw [if_pos (show (ex_sx S 52 k.toNatClampNeg (S.1 41 14)).1 41 17 = 0 ∨ Int32.ofNat (tk_s (S.1 42) n b) < (ex_sx S 52 k.toNatClampNeg (S.1 41 14)).1 41 18 ∨ (Int32.ofNat (tk_s (S.1 42) n b) = (ex_sx S 52 k.toNatClampNeg (S.1 41 14)).1 41 18 ∧ 2 < (ex_sx S 52 k.toNatClampNeg (S.1 41 14)).1 41 17) by rw [ex_sx_ne (by omega), ex_sx_ne (by omega)]; exact c)] at hU'
      rw [hU']; exact ⟨rfl, rfl⟩
    · rw [if_neg (show ¬ ((ex_sx S 52 k.toNatClampNeg (S.1 41 14)).1 41 17 = 0 ∨ Int32.ofNat (tk_s (S.1 42) n b) < (ex_sx S 52 k.toNatClampNeg (S.1 41 14)).1 41 18 ∨ (Int32.ofNat (tk_s (S.1 42) n b) = (ex_sx S 52 k.toNatClampNeg (S.1 41 14)).1 41 18 ∧ 2 < (ex_sx S 52 k.toNatClampNeg (S.1 41 14)).1 41 17)) by rw [ex_sx_ne (by omega), ex_sx_ne (by omega)]; exact c)] at hU'
      rw [hU']; exact ⟨ex_sx_ne (by omega), ex_sx_ne (by omega)⟩
  · rw [cb]
    have hU' := hU
    rw [h.2.2.2.2.1] at hU'
    have hs := tk_s_le (T := S.1 42) h.2.1
    have hn := h.2.2.1
    have r' : rqf (ex_sx S 52 k.toNatClampNeg (S.1 41 14)) A (tk_s (S.1 42) n b) := r.keep (ex_sx_ne (by omega)) (ex_sx_ne (by omega)) (Nat.le_refl _)
    refine (hU'.note r' (by omega) (by decide)).keep ?_ ?_ (Nat.le_refl _)
    · rw [hV.1.1 41 17 (by unfold rp179; omega), ex_sx_ne (by omega)]
    · rw [hV.1.1 41 18 (by unfold rp179; omega), ex_sx_ne (by omega)]
theorem ec183 : es183 rc183 := by
  refine ev183 ec179 ec182 ec184 ?_ ?_ ?_ ?_
  · intro k most but S c1 c2 U hU V hV
    exact rc183_bad c1 (decide_eq_true (Or.inl c2)) hU hV
  · intro k most but S c1 c2 c3 V hV
    have F1 : ex_fw rp183 S (ex_sx S 52 k.toNatClampNeg (S.1 41 14)) := (ex_fw.refl _ S).sx (by unfold rp183; omega)
    refine ⟨F1.trans (hV.1.mono rp179_183), fun n b h => ?_⟩
    have k2 : tk_k (S.1 42) n b = 2 := (h.k (by decide)).mp c1
    refine ⟨fun z => absurd k2 z, fun _ => ?_⟩
    have ev := h.2.2.2.2.2.2.2.1 k2
    have cb : rbad most but (tk_v (S.1 42) n b) = false := decide_eq_false (fun z => z.elim (fun y => c2 (by rw [ev]; exact y)) (fun y => c3 (by rw [ev]; exact y)))
    have t : tr_at (ex_sx S 52 k.toNatClampNeg (S.1 41 14)) n (tk_e (S.1 42) n b) := h.at
    refine ⟨rfl, hV.tok t, fun j => ?_, fun z => (by rw [cb] at z; cases z), fun _ => ?_, fun A r => ?_⟩
    · rw [hV.1.1 52 j (by unfold rp179; omega), ex_sx_at, ev]
      by_cases hj : j = k.toNatClampNeg
      · rw [if_pos ⟨rfl, hj⟩, if_pos hj]
      · rw [if_neg (fun z => hj z.2), if_neg hj]
    · exact ⟨by rw [hV.1.1 41 22 (by unfold rp179; omega), ex_sx_ne (by omega)], by rw [hV.1.1 41 17 (by unfold rp179; omega), ex_sx_ne (by omega)], by rw [hV.1.1 41 18 (by unfold rp179; omega), ex_sx_ne (by omega)]⟩
    · rw [cb, pnote_f]
      exact r.keep (by rw [hV.1.1 41 17 (by unfold rp179; omega), ex_sx_ne (by omega)]) (by rw [hV.1.1 41 18 (by unfold rp179; omega), ex_sx_ne (by omega)]) (by omega)
  · intro k most but S c1 c2 c3 U hU V hV
    exact rc183_bad c1 (decide_eq_true (Or.inr (Classical.not_not.mp c3))) hU hV
  · intro k most but S c1 v U hU
    obtain ⟨rfl, rfl⟩ := hU
    refine ⟨(ex_fw.refl _ S).sx (by unfold rp183; omega), fun n b h => ⟨fun _ => ⟨rfl, ?_⟩, fun z => absurd ((h.k (by decide)).mpr z) c1⟩⟩
    rw [ex_sx_eq, h.2.2.2.2.1]
theorem ex_fx.w {P : Nat → Nat → Prop} {S T : ex_S} (h : ex_fx P S T) : ex_fw P S T := ⟨h.1, fun a k _ => by rw [h.2], by rw [h.2]⟩
/-- keep: wide numbers of 52 come into 51 behind those that are there, unless there are most -/
def rc185 (a0 a1 a2 a3 a4 : Int32) (S S' : ex_S) : Prop := ex_fx (fun a _ => a = 51) S S' ∧ ∀ c f w m k : Nat, a0 = Int32.ofNat c → a1 = Int32.ofNat f → a2 = Int32.ofNat w → a3 = Int32.ofNat m → a4 = 0 → S.1 51 c = Int32.ofNat k → c < 2 → f ≤ 42 → w ≤ 4 → m ≤ 50 → k < m → c < f → ∀ j, S'.1 51 j = if j = c then Int32.ofNat (k + 1) else if f + w * k ≤ j ∧ j < f + w * k + w then S.1 52 (j - (f + w * k)) else S.1 51 j
def ri185 (a0 a1 a2 a3 a4 : Int32) (S : ex_S) (x y : Int32) (T : ex_S) : Prop := ex_fx (fun a _ => a = 51) S T ∧ ∀ c f w m k : Nat, a0 = Int32.ofNat c → a1 = Int32.ofNat f → a2 = Int32.ofNat w → a3 = Int32.ofNat m → a4 = 0 → S.1 51 c = Int32.ofNat k → c < 2 → f ≤ 42 → w ≤ 4 → m ≤ 50 → k < m → c < f → x = Int32.ofNat k ∧ ∃ i, i ≤ w ∧ y = Int32.ofNat i ∧ ∀ j, T.1 51 j = if f + w * k ≤ j ∧ j < f + w * k + i then S.1 52 (j - (f + w * k)) else S.1 51 j
theorem ec185 : es185 rc185 := by
  refine ev185 (I19 := ri185) ?_ ?_ ?_ ?_
  · intro a0 a1 a2 a3 a4 S c0
    refine ⟨ex_fx.refl _ S, fun c f w m k e0 e1 e2 e3 e4 ek hc hf hw hm hk hcf => ?_⟩
    refine ⟨by rw [e0, n32_tn (by omega)]; exact ek, 0, Nat.zero_le _, rfl, fun j => by rw [if_neg (by omega)]⟩
  · intro a0 a1 a2 a3 a4 S c0
    refine ⟨ex_fx.refl _ S, fun c f w m k e0 e1 e2 e3 e4 ek hc hf hw hm hk hcf => ?_⟩
    have := Classical.not_not.mp c0
    rw [e0, n32_tn (by omega), ek, e3, n32_eq (by omega) (by omega)] at this
    omega
  · intro a0 a1 a2 a3 a4 S x y T hI c0
    refine ⟨hI.1.sx rfl, fun c f w m k e0 e1 e2 e3 e4 ek hc hf hw hm hk hcf j => ?_⟩
    obtain ⟨h1, i, i1, i2, i3⟩ := hI.2 c f w m k e0 e1 e2 e3 e4 ek hc hf hw hm hk hcf
    rw [e2, i2, n32_le (by omega) (by omega)] at c0
    have : i = w := by omega
    subst this
    rw [ex_sx_at, e0, n32_tn (by omega)]
    have hcn : ¬ (f + i * k ≤ c ∧ c < f + i * k + i) := by
      have := Nat.le_add_right f (i * k); omega
    by_cases hj : j = c
    · rw [if_pos ⟨rfl, hj⟩, if_pos hj, i3 c, if_neg hcn, ek, n32_s]
    · rw [if_neg (fun z => hj z.2), if_neg hj, i3 j]
  · intro a0 a1 a2 a3 a4 S x y T hI c0
    refine ⟨hI.1.sx rfl, fun c f w m k e0 e1 e2 e3 e4 ek hc hf hw hm hk hcf => ?_⟩
    obtain ⟨h1, i, i1, i2, i3⟩ := hI.2 c f w m k e0 e1 e2 e3 e4 ek hc hf hw hm hk hcf
    rw [e2, i2, n32_le (by omega) (by omega)] at c0
    have hwk : w * k ≤ 4 * 50 := Nat.mul_le_mul hw (by omega)
    refine ⟨h1, i + 1, by omega, by rw [i2, n32_s], fun j => ?_⟩
    have e5 : ((a1 + (a2 * x)) + y).toNatClampNeg = f + w * k + i := by
      rw [e1, e2, h1, i2, ← Int32.ofNat_mul, n32_add, n32_add, n32_tn (by omega)]
    have e6 : (a4 + y).toNatClampNeg = i := by
      rw [e4, i2, show (0 : Int32) = Int32.ofNat 0 from rfl, n32_add, n32_tn (by omega)]; omega
    rw [ex_sx_at, e5, e6, hI.1.1 52 i (by omega), i3 j]
    by_cases hj : j = f + w * k + i
    · rw [if_pos ⟨rfl, hj⟩, if_pos (by omega), show j - (f + w * k) = i by omega]
    · rw [if_neg (fun z => hj z.2)]
      by_cases hl : f + w * k ≤ j ∧ j < f + w * k + i
      · rw [if_pos hl, if_pos (by omega)]
      · rw [if_neg hl, if_neg (by omega)]
/-- clearRead -/
def rc190 (S S' : ex_S) : Prop := ex_fx (fun a _ => a = 52) S S' ∧ ∀ j, j < 4 → S'.1 52 j = -1
theorem ec190 : es190 rc190 := by
  refine ev190 (I2 := fun S x T => ex_fx (fun a _ => a = 52) S T ∧ ∃ i, i ≤ 4 ∧ x = Int32.ofNat i ∧ ∀ j, j < i → T.1 52 j = -1) ?_ ?_ ?_
  · intro S; exact ⟨ex_fx.refl _ S, 0, by decide, rfl, fun j hj => absurd hj (by omega)⟩
  · intro S x T hI c
    obtain ⟨F, i, i1, i2, i3⟩ := hI
    rw [i2, show (4 : Int32) = Int32.ofNat 4 from rfl, n32_le (by omega) (by omega)] at c
    exact ⟨F, fun j hj => i3 j (by omega)⟩
  · intro S x T hI c
    obtain ⟨F, i, i1, i2, i3⟩ := hI
    rw [i2, show (4 : Int32) = Int32.ofNat 4 from rfl, n32_le (by omega) (by omega)] at c
    refine ⟨F.sx rfl, i + 1, by omega, by rw [i2, n32_s], fun j hj => ?_⟩
    rw [ex_sx_at, i2, n32_tn (by omega)]
    by_cases h : j = i
    · rw [if_pos ⟨rfl, h⟩]
    · rw [if_neg (fun z => h z.2)]; exact i3 j (by omega)
/-- seat -/
def rc191 (k but : Int32) (S : ex_S) (v : Int32) (S' : ex_S) : Prop := ∃ U, rc183 k 5 but S v U ∧ S' = ex_sx U 41 21 (if v = 0 then U.1 41 21 else pmx (U.1 41 21) (U.1 52 k.toNatClampNeg))
theorem ec191 : es191 rc191 := by
  refine ev191 ec183 ?_ ?_ ?_
  · intro k but S v U hU c; exact ⟨U, hU, by rw [if_pos c]⟩
  · intro k but S v U hU c c1
    refine ⟨U, hU, ?_⟩
    rw [if_neg c]; unfold pmx; rw [if_neg (Int32.not_lt.mpr c1)]
  · intro k but S v U hU c c1
    refine ⟨U, hU, ?_⟩
    rw [if_neg c]; unfold pmx; rw [if_pos (Int32.not_le.mp c1)]
/-- a packed word against a constant -/
theorem lg_0 {x y : Int64} : lg_cmp x y = 0 ↔ x = y := by
  unfold lg_cmp
  by_cases h : x > y
  · rw [if_pos h]
    exact ⟨fun z => absurd z (by decide), fun z => absurd h (by rw [z]; exact Int64.lt_irrefl)⟩
  · rw [if_neg h]
    by_cases e : x = y
    · rw [if_pos e]; exact ⟨fun _ => e, fun _ => rfl⟩
    · rw [if_neg e]; exact ⟨fun z => absurd z (by decide), fun z => absurd z e⟩
/-- the word that a line begins with, as the reference hands it over -/
def rwd (T : Nat → Int32) (n b : Nat) : Int64 := if tk_k T n b = 1 then tk_p T n b else 0
theorem rwd_eq {T B : Nat → Int32} {n b f l : Nat} {c : Int64} (hb : b ≤ n) (hm : 1 ≤ l - f) (hm8 : l - f ≤ 8) (hB : ∀ i, i < l - f → tk_le (B (f + i)) = true) (hc : c = tk_pf B f (l - f)) (h0 : c ≠ 0) : lg_cmp (rwd T n b) c = 0 ↔ tk_k T n b = 1 ∧ sp_b B T f l (tk_s T n b) (tk_e T n b) = true := by
  rw [lg_0]
  unfold rwd
  by_cases hk : tk_k T n b = 1
  · rw [if_pos hk, hc, tk_p_eq hk hb hm hm8 hB]; exact ⟨fun z => ⟨hk, z⟩, fun z => z.2⟩
  · rw [if_neg hk]; exact ⟨fun z => absurd z.symm h0, fun z => absurd z.1 hk⟩
