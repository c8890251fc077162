/-! rows of numbers that are copied: store, copyRow -/
def rf_put (g f : Nat → Int32) (p n : Nat) : Nat → Int32 := fun j => if p ≤ j ∧ j < p + n then f (j - p) else g j
theorem rf_put_0 (g f : Nat → Int32) (p : Nat) : rf_put g f p 0 = g := by
  funext j
  unfold rf_put
  rw [if_neg (by omega)]
theorem rf_put_step (g f : Nat → Int32) (p n : Nat) : upd (rf_put g f p n) (p + n) (f n) = rf_put g f p (n + 1) := by
  funext j
  unfold upd rf_put
  by_cases h : j = p + n
  · rw [if_pos h, if_pos (by omega)]
    congr 1
    omega
  · rw [if_neg h]
    by_cases h2 : p ≤ j ∧ j < p + n
    · rw [if_pos h2, if_pos (by omega)]
    · rw [if_neg h2, if_neg (by omega)]
theorem rf_inN {x : Int32} {k n : Nat} (hx : x.toInt = k) (hk : k < n) : pm_in x n = true := sf_in (a := k) (b := k) ⟨by omega, by omega⟩ (by omega) (by omega)
theorem rf_natN {x : Int32} {k : Nat} (hx : x.toInt = k) : x.toNatClampNeg = k := by
  show x.toInt.toNat = k
  omega
theorem rf_G.cell2 {l : List Nat} {h h' : pm_H} (G : rf_G l h h') {a : Nat} (ha : a ∉ l) : h'.2.2 a = h.2.2 a := G.2.2 a ha
theorem rf_x193 {d : Nat} {m : Nat → Int32} {w : Int64} {h : pm_H} {Q : Option Value → pm_H → Prop} {a N W kk : Nat} {g f : Nat → Int32} {wd k : Int32} (h41 : h.2.2 41 = .inr (12, rf_fs m w)) (h72 : 72 ≤ h.1) (ha1 : 42 ≤ a) (ha2 : a < 72) (hane : a ≠ 51) (ea : h.2.2 a = .inl (0, N, .inl g)) (e51 : h.2.2 51 = .inl (0, 152, .inl f)) (hW : wd.toInt = W) (hk : k.toInt = kk) (hN : W * kk + W ≤ N) (hN2 : N ≤ 2000) (hW2 : W ≤ 152) (K : ∀ h', rf_G [a] h h' → h'.2.2 a = .inl (0, N, .inl (rf_put g f (W * kk) W)) → Q none h') : pm_R d 193 0 [.ref 41, .ref a, .int wd, .int k, pm_no] [] h Q := by
  have hm : wd.toInt * k.toInt = ((W * kk : Nat) : Int) := by rw [hW, hk, Int.natCast_mul]
  obtain ⟨p, hp⟩ : ∃ p, p = W * kk := ⟨_, rfl⟩
  rw [← hp] at hm hN K
  have L : ∀ (t : Nat) (hc : pm_H) (i : Int32) (n : Nat), rf_G [a] h hc → hc.2.2 a = .inl (0, N, .inl (rf_put g f p n)) → i.toInt = n → n ≤ W → W - n = t → pm_R d 193 3 [.ref 41, .ref a, .int wd, .int k, .int i] [] hc Q := by
    intro t
    induction t with
    | zero =>
      intro hc i n G ec hi hn ht
      have : n = W := by omega
      subst this
      refine pm_R_lo pm_M193 (pc' := 5) rfl rfl rfl ?_
      refine pm_R_lo pm_M193 (pc' := 6) rfl rfl rfl ?_
      refine pm_R_icmp pm_M193 (t := 30) (pc' := 9) rfl rfl rfl (fun c => ?_) (fun c => absurd (Int32.le_iff_toInt_le.mpr (by omega)) c)
      exact pm_R_ret pm_M193 (r := none) rfl rfl (K hc G ec)
    | succ t ih =>
      intro hc i n G ec hi hn ht
      have c41 : hc.2.2 41 = .inr (12, rf_fs m w) := (G.cell2 (by simp; omega)).trans h41
      have c51 : hc.2.2 51 = .inl (0, 152, .inl f) := (G.cell2 (by simp; omega)).trans e51
      have c1 : hc.1 = h.1 := G.1
      refine pm_R_lo pm_M193 (pc' := 5) rfl rfl rfl ?_
      refine pm_R_lo pm_M193 (pc' := 6) rfl rfl rfl ?_
      refine pm_R_icmp pm_M193 (t := 30) (pc' := 9) rfl rfl rfl (fun c => absurd (Int32.le_iff_toInt_le.mp c) (by omega)) (fun c => ?_)
      refine pm_R_lo pm_M193 (pc' := 10) rfl rfl rfl ?_
      refine pm_R_lo pm_M193 (pc' := 11) rfl rfl rfl ?_
      refine pm_R_lo pm_M193 (pc' := 12) rfl rfl rfl ?_
      refine pm_R_op pm_M193 (pc' := 13) (st' := [.int (wd * k), .ref a]) rfl rfl rfl ?_
      refine pm_R_lo pm_M193 (pc' := 15) rfl rfl rfl ?_
      refine pm_R_op pm_M193 (pc' := 16) (st' := [.int (wd * k + i), .ref a]) rfl rfl rfl ?_
      have e1 : (wd * k).toInt = (p : Int) := by rw [Jvm.Kit.i32_mul (by omega) (by omega), hm]
      have e2 : (wd * k + i).toInt = ((p + n : Nat) : Int) := by rw [Jvm.Kit.i32_add (by omega) (by omega), e1, hi]; omega
      refine pm_R_lo pm_M193 (pc' := 17) rfl rfl rfl ?_
      refine pm_R_get pm_M193 (pc' := 20) (v := .ref 51) rfl rfl c41 (by decide) (by omega) rfl rfl ?_
      refine pm_R_lo pm_M193 (pc' := 22) rfl rfl rfl ?_
      refine pm_R_iald pm_M193 (pc' := 23) (v := f n) rfl c51 (by omega) (rf_inN hi (by omega)) (by rw [rf_natN hi]) rfl ?_
      refine pm_R_iast pm_M193 (pc' := 24) rfl ec (by omega) (by omega) (rf_inN e2 (by omega)) rfl ?_
      rw [rf_natN e2, rf_put_step]
      refine pm_R_lo pm_M193 (pc' := 27) (ls' := [.ref 41, .ref a, .int wd, .int k, .int (i + 1)]) (st' := []) rfl rfl rfl ?_
      refine pm_R_br pm_M193 (pc' := 3) rfl rfl ?_
      have e3 : (i + 1).toInt = ((n + 1 : Nat) : Int) := by
        have e0 : (1 : Int32).toInt = 1 := rfl
        rw [Jvm.Kit.i32_add (by omega) (by omega), hi, e0]; omega
      exact ih _ (i + 1) (n + 1) (G.trans (rf_G.one _ _ _) (fun k hk => hk)) (by simp [pm_set, va_up]) e3 (by omega) (by omega)
  refine pm_R_op pm_M193 (pc' := 1) (st' := [.int 0]) rfl rfl rfl ?_
  refine pm_R_lo pm_M193 (pc' := 3) (ls' := [.ref 41, .ref a, .int wd, .int k, .int 0]) (st' := []) rfl rfl rfl ?_
  exact L _ h 0 0 (rf_G.refl _ _) (by rw [rf_put_0]; exact ea) rfl (Nat.zero_le _) rfl
theorem rf_x297 {d : Nat} {h : pm_H} {Q : Option Value → pm_H → Prop} {a N W kf kt : Nat} {g : Nat → Int32} {wd f t : Int32} (h72 : 72 ≤ h.1) (ha1 : 42 ≤ a) (ha2 : a < 72) (ea : h.2.2 a = .inl (0, N, .inl g)) (hW : wd.toInt = W) (hf : f.toInt = kf) (ht : t.toInt = kt) (hN1 : W * kf + W ≤ N) (hN2 : W * kt + W ≤ N) (hN : N ≤ 2000) (hne : kf ≠ kt) (K : ∀ h', rf_G [a] h h' → h'.2.2 a = .inl (0, N, .inl (rf_put g (fun i => g (W * kf + i)) (W * kt) W)) → Q none h') : pm_R d 297 0 [.ref a, .int wd, .int f, .int t, pm_no] [] h Q := by
  have hmf : wd.toInt * f.toInt = ((W * kf : Nat) : Int) := by rw [hW, hf, Int.natCast_mul]
  have hmt : wd.toInt * t.toInt = ((W * kt : Nat) : Int) := by rw [hW, ht, Int.natCast_mul]
  have hdis : W * kf + W ≤ W * kt ∨ W * kt + W ≤ W * kf := by
    rcases Nat.lt_or_gt_of_ne hne with z | z
    · left; have := Nat.mul_le_mul_left W z; rw [Nat.mul_succ] at this; exact this
    · right; have := Nat.mul_le_mul_left W z; rw [Nat.mul_succ] at this; exact this
  obtain ⟨p, hp⟩ : ∃ p, p = W * kt := ⟨_, rfl⟩
  obtain ⟨s, hs⟩ : ∃ s, s = W * kf := ⟨_, rfl⟩
  rw [← hp] at hmt hN2 K hdis
  rw [← hs] at hmf hN1 K hdis
  have L : ∀ (u : Nat) (hc : pm_H) (i : Int32) (n : Nat), rf_G [a] h hc → hc.2.2 a = .inl (0, N, .inl (rf_put g (fun i => g (s + i)) p n)) → i.toInt = n → n ≤ W → W - n = u → pm_R d 297 3 [.ref a, .int wd, .int f, .int t, .int i] [] hc Q := by
    intro u
    induction u with
    | zero =>
      intro hc i n G ec hi hn hu
      have : n = W := by omega
      subst this
      refine pm_R_lo pm_M297 (pc' := 5) rfl rfl rfl ?_
      refine pm_R_lo pm_M297 (pc' := 6) rfl rfl rfl ?_
      refine pm_R_icmp pm_M297 (t := 31) (pc' := 9) rfl rfl rfl (fun c => ?_) (fun c => absurd (Int32.le_iff_toInt_le.mpr (by omega)) c)
      exact pm_R_ret pm_M297 (r := none) rfl rfl (K hc G ec)
    | succ u ih =>
      intro hc i n G ec hi hn hu
      have c1 : hc.1 = h.1 := G.1
      refine pm_R_lo pm_M297 (pc' := 5) rfl rfl rfl ?_
      refine pm_R_lo pm_M297 (pc' := 6) rfl rfl rfl ?_
      refine pm_R_icmp pm_M297 (t := 31) (pc' := 9) rfl rfl rfl (fun c => absurd (Int32.le_iff_toInt_le.mp c) (by omega)) (fun c => ?_)
      refine pm_R_lo pm_M297 (pc' := 10) rfl rfl rfl ?_
      refine pm_R_lo pm_M297 (pc' := 11) rfl rfl rfl ?_
      refine pm_R_lo pm_M297 (pc' := 12) rfl rfl rfl ?_
      refine pm_R_op pm_M297 (pc' := 13) (st' := [.int (wd * t), .ref a]) rfl rfl rfl ?_
      refine pm_R_lo pm_M297 (pc' := 15) rfl rfl rfl ?_
      refine pm_R_op pm_M297 (pc' := 16) (st' := [.int (wd * t + i), .ref a]) rfl rfl rfl ?_
      have e1 : (wd * t).toInt = (p : Int) := by rw [Jvm.Kit.i32_mul (by omega) (by omega), hmt]
      have e2 : (wd * t + i).toInt = ((p + n : Nat) : Int) := by rw [Jvm.Kit.i32_add (by omega) (by omega), e1, hi]; omega
      refine pm_R_lo pm_M297 (pc' := 17) rfl rfl rfl ?_
      refine pm_R_lo pm_M297 (pc' := 18) rfl rfl rfl ?_
      refine pm_R_lo pm_M297 (pc' := 19) rfl rfl rfl ?_
      refine pm_R_op pm_M297 (pc' := 20) (st' := [.int (wd * f), .ref a, .int (wd * t + i), .ref a]) rfl rfl rfl ?_
      refine pm_R_lo pm_M297 (pc' := 22) rfl rfl rfl ?_
      refine pm_R_op pm_M297 (pc' := 23) (st' := [.int (wd * f + i), .ref a, .int (wd * t + i), .ref a]) rfl rfl rfl ?_
      have e4 : (wd * f).toInt = (s : Int) := by rw [Jvm.Kit.i32_mul (by omega) (by omega), hmf]
      have e5 : (wd * f + i).toInt = ((s + n : Nat) : Int) := by rw [Jvm.Kit.i32_add (by omega) (by omega), e4, hi]; omega
      have e6 : rf_put g (fun i => g (s + i)) p n (s + n) = g (s + n) := by unfold rf_put; rw [if_neg (by omega)]
      refine pm_R_iald pm_M297 (pc' := 24) (v := g (s + n)) rfl ec (by omega) (rf_inN e5 (by omega)) (by rw [rf_natN e5]; exact e6) rfl ?_
      refine pm_R_iast pm_M297 (pc' := 25) rfl ec (by omega) (by omega) (rf_inN e2 (by omega)) rfl ?_
      rw [rf_natN e2, rf_put_step g (fun i => g (s + i)) p n]
      refine pm_R_lo pm_M297 (pc' := 28) (ls' := [.ref a, .int wd, .int f, .int t, .int (i + 1)]) (st' := []) rfl rfl rfl ?_
      refine pm_R_br pm_M297 (pc' := 3) rfl rfl ?_
      have e3 : (i + 1).toInt = ((n + 1 : Nat) : Int) := by
        have e0 : (1 : Int32).toInt = 1 := rfl
        rw [Jvm.Kit.i32_add (by omega) (by omega), hi, e0]; omega
      exact ih _ (i + 1) (n + 1) (G.trans (rf_G.one _ _ _) (fun k hk => hk)) (by simp [pm_set, va_up]) e3 (by omega) (by omega)
  refine pm_R_op pm_M297 (pc' := 1) (st' := [.int 0]) rfl rfl rfl ?_
  refine pm_R_lo pm_M297 (pc' := 3) (ls' := [.ref a, .int wd, .int f, .int t, .int 0]) (st' := []) rfl rfl rfl ?_
  exact L _ h 0 0 (rf_G.refl _ _) (by rw [rf_put_0]; exact ea) rfl (Nat.zero_le _) rfl
