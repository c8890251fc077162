section
/-! rows of numbers that are copied: store, copyRow -/
def rf_put (g f : Nat → Int32) (p n : Nat) : Nat → Int32 := fun j => if p ≤ j ∧ j < p + n then f (j - p) else g j
theorem rf_put_0 (g f : Nat → Int32) (p : Nat) : rf_put g f p 0 = g := by
  funext j
  unfold rf_put
  rw [if_neg (by omega)]
theorem rf_put_step (g f : Nat → Int32) (p n : Nat) : upd (rf_put g f p n) (p + n) (f n) = rf_put g f p (n + 1) := by
  funext j
  unfold upd rf_put
  by_cases h : j = p + n
  · rw [if_pos h, if_pos (by omega)]
    congr 1
    omega
  · rw [if_neg h]
    by_cases h2 : p ≤ j ∧ j < p + n
    · rw [if_pos h2, if_pos (by omega)]
    · rw [if_neg h2, if_neg (by omega)]
theorem rf_inN {x : Int32} {k n : Nat} (hx : x.toInt = k) (hk : k < n) : pm_in x n = true := sf_in (a := k) (b := k) ⟨by omega, by omega⟩ (by omega) (by omega)
theorem rf_natN {x : Int32} {k : Nat} (hx : x.toInt = k) : x.toNatClampNeg = k := by
  show x.toInt.toNat = k
  omega
theorem rf_G.cell2 {l : List Nat} {h h_q : pm_H} (G : rf_G l h h_q) {a : Nat} (ha : a ∉ l) : h_q.2.2 a = h.2.2 a := G.2.2 a ha
theorem rf_x193 {d : Nat} {m : Nat → Int32} {w : Int64} {h : pm_H} {Q : Option Value → pm_H → Prop} {a N W kk : Nat} {g f : Nat → Int32} {wd k : Int32} (h41 : h.2.2 41 = .inr (12, rf_fs m w)) (h72 : 72 ≤ h.1) (ha1 : 42 ≤ a) (ha2 : a < 72) (hane : a ≠ 51) (ea : h.2.2 a = .inl (0, N, .inl g)) (e51 : h.2.2 51 = .inl (0, 152, .inl f)) (hW : wd.toInt = W) (hk : k.toInt = kk) (hN : W * kk + W ≤ N) (hN2 : N ≤ 2000) (hW2 : W ≤ 152) (K : ∀ h_q, rf_G [a] h h_q → h_q.2.2 a = .inl (0, N, .inl (rf_put g f (W * kk) W)) → Q none h_q) : pm_R d 193 0 [.ref 41, .ref a, .int wd, .int k, pm_no] [] h Q := by
  have hm : wd.toInt * k.toInt = ((W * kk : Nat) : Int) := by rw [hW, hk, Int.natCast_mul]
  obtain ⟨p, hp⟩ : ∃ p, p = W * kk := ⟨_, rfl⟩
  rw [← hp] at hm hN K
  have L : ∀ (t : Nat) (hc : pm_H) (i : Int32) (n : Nat), rf_G [a] h hc → hc.2.2 a = .inl (0, N, .inl (rf_put g f p n)) → i.toInt = n → n ≤ W → W - n = t → pm_R d 193 3 [.ref 41, .ref a, .int wd, .int k, .int i] [] hc Q := by
    intro t
    induction t with
    | zero =>
      intro hc i n G ec hi hn ht
      have : n = W := by omega
      subst this
      refine pm_R_lo pm_M193 (pc_q := 5) rfl rfl rfl ?_
      refine pm_R_lo pm_M193 (pc_q := 6) rfl rfl rfl ?_
      refine pm_R_icmp pm_M193 (t := 30) (pc_q := 9) rfl rfl rfl (fun c => ?_) (fun c => absurd (Int32.le_iff_toInt_le.mpr (by omega)) c)
      exact pm_R_ret pm_M193 (r := none) rfl rfl (K hc G ec)
    | succ t ih =>
      intro hc i n G ec hi hn ht
      have c41 : hc.2.2 41 = .inr (12, rf_fs m w) := (G.cell2 (by simp; omega)).trans h41
      have c51 : hc.2.2 51 = .inl (0, 152, .inl f) := (G.cell2 (by simp; omega)).trans e51
      have c1 : hc.1 = h.1 := G.1
      refine pm_R_lo pm_M193 (pc_q := 5) rfl rfl rfl ?_
      refine pm_R_lo pm_M193 (pc_q := 6) rfl rfl rfl ?_
      refine pm_R_icmp pm_M193 (t := 30) (pc_q := 9) rfl rfl rfl (fun c => absurd (Int32.le_iff_toInt_le.mp c) (by omega)) (fun c => ?_)
      refine pm_R_lo pm_M193 (pc_q := 10) rfl rfl rfl ?_
      refine pm_R_lo pm_M193 (pc_q := 11) rfl rfl rfl ?_
      refine pm_R_lo pm_M193 (pc_q := 12) rfl rfl rfl ?_
      refine pm_R_op pm_M193 (pc_q := 13) (st_q := [.int (wd * k), .ref a]) rfl rfl rfl ?_
      refine pm_R_lo pm_M193 (pc_q := 15) rfl rfl rfl ?_
      refine pm_R_op pm_M193 (pc_q := 16) (st_q := [.int (wd * k + i), .ref a]) rfl rfl rfl ?_
      have e1 : (wd * k).toInt = (p : Int) := by rw [Jvm.Kit.i32_mul (by omega) (by omega), hm]
      have e2 : (wd * k + i).toInt = ((p + n : Nat) : Int) := by rw [Jvm.Kit.i32_add (by omega) (by omega), e1, hi]; omega
      refine pm_R_lo pm_M193 (pc_q := 17) rfl rfl rfl ?_
      refine pm_R_get pm_M193 (pc_q := 20) (v := .ref 51) rfl rfl c41 (by decide) (by omega) rfl rfl ?_
      refine pm_R_lo pm_M193 (pc_q := 22) rfl rfl rfl ?_
      refine pm_R_iald pm_M193 (pc_q := 23) (v := f n) rfl c51 (by omega) (rf_inN hi (by omega)) (by rw [rf_natN hi]) rfl ?_
      refine pm_R_iast pm_M193 (pc_q := 24) rfl ec (by omega) (by omega) (rf_inN e2 (by omega)) rfl ?_
      rw [rf_natN e2, rf_put_step]
      refine pm_R_lo pm_M193 (pc_q := 27) (ls_q := [.ref 41, .ref a, .int wd, .int k, .int (i + 1)]) (st_q := []) rfl rfl rfl ?_
      refine pm_R_br pm_M193 (pc_q := 3) rfl rfl ?_
      have e3 : (i + 1).toInt = ((n + 1 : Nat) : Int) := by
        have e0 : (1 : Int32).toInt = 1 := rfl
        rw [Jvm.Kit.i32_add (by omega) (by omega), hi, e0]; omega
      exact ih _ (i + 1) (n + 1) (G.trans (rf_G.one _ _ _) (fun k hk => hk)) (by simp [pm_set, va_up]) e3 (by omega) (by omega)
  refine pm_R_op pm_M193 (pc_q := 1) (st_q := [.int 0]) rfl rfl rfl ?_
  refine pm_R_lo pm_M193 (pc_q := 3) (ls_q := [.ref 41, .ref a, .int wd, .int k, .int 0]) (st_q := []) rfl rfl rfl ?_
  exact L _ h 0 0 (rf_G.refl _ _) (by rw [rf_put_0]; exact ea) rfl (Nat.zero_le _) rfl
theorem rf_x297 {d : Nat} {h : pm_H} {Q : Option Value → pm_H → Prop} {a N W kf kt : Nat} {g : Nat → Int32} {wd f t : Int32} (h72 : 72 ≤ h.1) (ha1 : 42 ≤ a) (ha2 : a < 72) (ea : h.2.2 a = .inl (0, N, .inl g)) (hW : wd.toInt = W) (hf : f.toInt = kf) (ht : t.toInt = kt) (hN1 : W * kf + W ≤ N) (hN2 : W * kt + W ≤ N) (hN : N ≤ 2000) (hne : kf ≠ kt) (K : ∀ h_q, rf_G [a] h h_q → h_q.2.2 a = .inl (0, N, .inl (rf_put g (fun i => g (W * kf + i)) (W * kt) W)) → Q none h_q) : pm_R d 297 0 [.ref a, .int wd, .int f, .int t, pm_no] [] h Q := by
  have hmf : wd.toInt * f.toInt = ((W * kf : Nat) : Int) := by rw [hW, hf, Int.natCast_mul]
  have hmt : wd.toInt * t.toInt = ((W * kt : Nat) : Int) := by rw [hW, ht, Int.natCast_mul]
  have hdis : W * kf + W ≤ W * kt ∨ W * kt + W ≤ W * kf := by
    rcases Nat.lt_or_gt_of_ne hne with z | z
    · left; have := Nat.mul_le_mul_left W z; rw [Nat.mul_succ] at this; exact this
    · right; have := Nat.mul_le_mul_left W z; rw [Nat.mul_succ] at this; exact this
  obtain ⟨p, hp⟩ : ∃ p, p = W * kt := ⟨_, rfl⟩
  obtain ⟨s, hs⟩ : ∃ s, s = W * kf := ⟨_, rfl⟩
  rw [← hp] at hmt hN2 K hdis
  rw [← hs] at hmf hN1 K hdis
  have L : ∀ (u : Nat) (hc : pm_H) (i : Int32) (n : Nat), rf_G [a] h hc → hc.2.2 a = .inl (0, N, .inl (rf_put g (fun i => g (s + i)) p n)) → i.toInt = n → n ≤ W → W - n = u → pm_R d 297 3 [.ref a, .int wd, .int f, .int t, .int i] [] hc Q := by
    intro u
    induction u with
    | zero =>
      intro hc i n G ec hi hn hu
      have : n = W := by omega
      subst this
      refine pm_R_lo pm_M297 (pc_q := 5) rfl rfl rfl ?_
      refine pm_R_lo pm_M297 (pc_q := 6) rfl rfl rfl ?_
      refine pm_R_icmp pm_M297 (t := 31) (pc_q := 9) rfl rfl rfl (fun c => ?_) (fun c => absurd (Int32.le_iff_toInt_le.mpr (by omega)) c)
      exact pm_R_ret pm_M297 (r := none) rfl rfl (K hc G ec)
    | succ u ih =>
      intro hc i n G ec hi hn hu
      have c1 : hc.1 = h.1 := G.1
      refine pm_R_lo pm_M297 (pc_q := 5) rfl rfl rfl ?_
      refine pm_R_lo pm_M297 (pc_q := 6) rfl rfl rfl ?_
      refine pm_R_icmp pm_M297 (t := 31) (pc_q := 9) rfl rfl rfl (fun c => absurd (Int32.le_iff_toInt_le.mp c) (by omega)) (fun c => ?_)
      refine pm_R_lo pm_M297 (pc_q := 10) rfl rfl rfl ?_
      refine pm_R_lo pm_M297 (pc_q := 11) rfl rfl rfl ?_
      refine pm_R_lo pm_M297 (pc_q := 12) rfl rfl rfl ?_
      refine pm_R_op pm_M297 (pc_q := 13) (st_q := [.int (wd * t), .ref a]) rfl rfl rfl ?_
      refine pm_R_lo pm_M297 (pc_q := 15) rfl rfl rfl ?_
      refine pm_R_op pm_M297 (pc_q := 16) (st_q := [.int (wd * t + i), .ref a]) rfl rfl rfl ?_
      have e1 : (wd * t).toInt = (p : Int) := by rw [Jvm.Kit.i32_mul (by omega) (by omega), hmt]
      have e2 : (wd * t + i).toInt = ((p + n : Nat) : Int) := by rw [Jvm.Kit.i32_add (by omega) (by omega), e1, hi]; omega
      refine pm_R_lo pm_M297 (pc_q := 17) rfl rfl rfl ?_
      refine pm_R_lo pm_M297 (pc_q := 18) rfl rfl rfl ?_
      refine pm_R_lo pm_M297 (pc_q := 19) rfl rfl rfl ?_
      refine pm_R_op pm_M297 (pc_q := 20) (st_q := [.int (wd * f), .ref a, .int (wd * t + i), .ref a]) rfl rfl rfl ?_
      refine pm_R_lo pm_M297 (pc_q := 22) rfl rfl rfl ?_
      refine pm_R_op pm_M297 (pc_q := 23) (st_q := [.int (wd * f + i), .ref a, .int (wd * t + i), .ref a]) rfl rfl rfl ?_
      have e4 : (wd * f).toInt = (s : Int) := by rw [Jvm.Kit.i32_mul (by omega) (by omega), hmf]
      have e5 : (wd * f + i).toInt = ((s + n : Nat) : Int) := by rw [Jvm.Kit.i32_add (by omega) (by omega), e4, hi]; omega
      have e6 : rf_put g (fun i => g (s + i)) p n (s + n) = g (s + n) := by unfold rf_put; rw [if_neg (by omega)]
      refine pm_R_iald pm_M297 (pc_q := 24) (v := g (s + n)) rfl ec (by omega) (rf_inN e5 (by omega)) (by rw [rf_natN e5]; exact e6) rfl ?_
      refine pm_R_iast pm_M297 (pc_q := 25) rfl ec (by omega) (by omega) (rf_inN e2 (by omega)) rfl ?_
      rw [rf_natN e2, rf_put_step g (fun i => g (s + i)) p n]
      refine pm_R_lo pm_M297 (pc_q := 28) (ls_q := [.ref a, .int wd, .int f, .int t, .int (i + 1)]) (st_q := []) rfl rfl rfl ?_
      refine pm_R_br pm_M297 (pc_q := 3) rfl rfl ?_
      have e3 : (i + 1).toInt = ((n + 1 : Nat) : Int) := by
        have e0 : (1 : Int32).toInt = 1 := rfl
        rw [Jvm.Kit.i32_add (by omega) (by omega), hi, e0]; omega
      exact ih _ (i + 1) (n + 1) (G.trans (rf_G.one _ _ _) (fun k hk => hk)) (by simp [pm_set, va_up]) e3 (by omega) (by omega)
  refine pm_R_op pm_M297 (pc_q := 1) (st_q := [.int 0]) rfl rfl rfl ?_
  refine pm_R_lo pm_M297 (pc_q := 3) (ls_q := [.ref a, .int wd, .int f, .int t, .int 0]) (st_q := []) rfl rfl rfl ?_
  exact L _ h 0 0 (rf_G.refl _ _) (by rw [rf_put_0]; exact ea) rfl (Nat.zero_le _) rfl
end
section
/-! the end of text(): a text that is told -/
theorem rf_put_B {g f : Nat → Int32} {P k : Nat} {lo hi : Nat → Int} (hg : ∀ j, sf_B (lo (j % P)) (hi (j % P)) (g j)) (hf : ∀ i, i < P → sf_B (lo i) (hi i) (f i)) : ∀ j, sf_B (lo (j % P)) (hi (j % P)) (rf_put g f (P * k) P j) := by
  intro j
  unfold rf_put
  by_cases h : P * k ≤ j ∧ j < P * k + P
  · rw [if_pos h]
    have e : j % P = j - P * k := by
      have e1 : j = P * k + (j - P * k) := by omega
      rw [e1, Nat.mul_add_mod, Nat.mod_eq_of_lt (by omega)]
      omega
    rw [e]
    exact hf _ (by omega)
  · rw [if_neg h]; exact hg j
theorem rf_T.tell {m : Nat → Int32} {w : Int64} {h h2 : pm_H} {a : Nat} (T : rf_T m w h) (h1 : h2.1 = h.1) (hG : ∀ b, b ≠ 46 → b ≠ a → h2.2.2 b = h.2.2 b) (ha : 47 ≤ a ∧ a ≤ 50) (h46 : rf_C 46 (h2.2.2 46)) (hC : rf_C a (h2.2.2 a)) (hX : rf_X (h2.2.2 46) (h2.2.2 48)) : rf_T m w h2 := by
  refine ⟨by rw [h1]; exact T.1, by rw [hG 41 (by omega) (by omega)]; exact T.2.1, T.2.2.1, fun b b1 b2 => ?_, hX⟩
  by_cases e1 : b = 46
  · subst e1; exact h46
  · by_cases e2 : b = a
    · subst e2; exact hC
    · rw [hG b e1 e2]; exact T.2.2.2.1 b b1 b2
theorem rf_C46 {g : Nat → Int32} (hb : ∀ j, sf_B 0 (if j % 4 = 1 then 3 else 2) (g j)) {s n : Int32} {k : Nat} (hs : s.toNatClampNeg = k) (hk : k < 4) (hn : sf_B 0 (if k % 4 = 1 then 3 else 2) n) : rf_C 46 (.inl (0, 16, .inl (upd g s.toNatClampNeg n))) := by
  refine ⟨_, rfl, fun j => ?_⟩
  unfold upd
  by_cases e : j = s.toNatClampNeg
  · rw [if_pos e, e, hs]; exact hn
  · rw [if_neg e]; exact hb j
theorem rf_Xno {m : Nat → Int32} {w : Int64} {h h2 : pm_H} {g : Nat → Int32} {s n : Int32} {k : Nat} (T : rf_T m w h) (e46 : h.2.2 46 = .inl (0, 16, .inl g)) (e2 : h2.2.2 46 = .inl (0, 16, .inl (upd g s.toNatClampNeg n))) (e48 : h2.2.2 48 = h.2.2 48) (hs : s.toNatClampNeg = k) (hk : k = 0 ∨ k = 2 ∨ k = 3) : rf_X (h2.2.2 46) (h2.2.2 48) := by
  intro f f2 ef ef2 c r hc hr hlt
  rw [e2] at ef
  cases ef
  rw [e48] at ef2
  have : upd g s.toNatClampNeg n (4 * c + 1) = g (4 * c + 1) := by unfold upd; rw [if_neg (by omega)]
  rw [this] at hlt
  exact T.2.2.2.2 g f2 e46 ef2 c r hc hr hlt
theorem rf_Xrow {m : Nat → Int32} {w : Int64} {h h2 : pm_H} {g g2 f : Nat → Int32} {s n : Int32} {k : Nat} (T : rf_T m w h) (e46 : h.2.2 46 = .inl (0, 16, .inl g)) (e48 : h.2.2 48 = .inl (0, 156, .inl g2)) (e2 : h2.2.2 46 = .inl (0, 16, .inl (upd g s.toNatClampNeg n))) (e4 : h2.2.2 48 = .inl (0, 156, .inl (rf_put g2 f (13 * k) 13))) (hs : s.toNatClampNeg = 1) (hk : k < 3) (hf : 1 ≤ (f 0).toInt) (hn : ((g 1).toInt = k ∧ n.toInt = k + 1) ∨ n.toInt = (g 1).toInt) : rf_X (h2.2.2 46) (h2.2.2 48) := by
  intro a b ea eb c r hc hr hlt
  rw [e2] at ea
  cases ea
  rw [e4] at eb
  cases eb
  unfold rf_put
  by_cases h1 : 13 * k ≤ 39 * c + 13 * r ∧ 39 * c + 13 * r < 13 * k + 13
  · rw [if_pos h1]
    have : 39 * c + 13 * r - 13 * k = 0 := by omega
    rw [this]; exact hf
  · rw [if_neg h1]
    unfold upd at hlt
    by_cases h2 : 4 * c + 1 = s.toNatClampNeg
    · rw [if_pos h2] at hlt
      have c0 : c = 0 := by omega
      subst c0
      refine T.2.2.2.2 g g2 e46 e48 0 r hc hr ?_
      show (r : Int) < (g 1).toInt
      rcases hn with ⟨n1, n2⟩ | n1
      · omega
      · omega
    · rw [if_neg h2] at hlt
      exact T.2.2.2.2 g g2 e46 e48 c r hc hr hlt
def rf_fun (x : pm_E) : Nat → Int32 := match x with | .inl (_, _, .inl f) => f | _ => fun _ => 0
section TAIL
variable {d : Nat} {m : Nat → Int32} {w : Int64} {h : pm_H} {Q : Option Value → pm_H → Prop} {g f : Nat → Int32} {n k at_ : Int32}
theorem rf_tail0 (T : rf_T m w h) (e46 : h.2.2 46 = .inl (0, 16, .inl g)) (e51 : h.2.2 51 = .inl (0, 152, .inl f)) (hf : rf_bd 0 f) (Bn : sf_B 0 2 n) (Bk : sf_B 0 1 k) (K : ∀ h_q, rf_T m w h_q → rf_G [46, 47] h h_q → h_q.2.2 46 = .inl (0, 16, .inl (upd g (Int32.toNatClampNeg 0) n)) → h_q.2.2 47 = .inl (0, 800, .inl (rf_put (rf_fun (h.2.2 47)) f (100 * k.toInt.toNat) 100)) → Q (some (.int k)) h_q) : pm_R (d + 1) 175 122 [.ref 41, .int 0, .int at_, .int k] [.int n, .int 0, .ref 46] h Q := by
  obtain ⟨g_q, eg', bg⟩ := T.2.2.2.1 46 (by decide) (by decide)
  rw [e46] at eg'
  cases eg'
  obtain ⟨gl, el, bl⟩ := T.2.2.2.1 47 (by decide) (by decide)
  have k1 := Bk.1; have k2 := Bk.2
  have h72 := T.1
  refine pm_R_iast pm_M175 (pc_q := 123) (pm_q175_1 (Nat.le_of_ble_eq_true rfl)) e46 (by decide) (by omega) rfl rfl ?_
  obtain ⟨h1, eh1⟩ : ∃ y, y = pm_set h 46 (.inl (0, 16, .inl (upd g (Int32.toNatClampNeg 0) n))) := ⟨_, rfl⟩
  rw [← eh1]
  have G1 : rf_G [46] h h1 := by rw [eh1]; exact rf_G.one _ _ _
  have c46 : h1.2.2 46 = .inl (0, 16, .inl (upd g (Int32.toNatClampNeg 0) n)) := by rw [eh1]; simp [pm_set, va_up]
  have c41 : h1.2.2 41 = .inr (12, rf_fs m w) := (G1.2.2 41 (by decide)).trans T.2.1
  have c1 : h1.1 = h.1 := G1.1
  refine pm_R_lo pm_M175 (pc_q := 124) (pm_q175_1 (Nat.le_of_ble_eq_true rfl)) rfl rfl ?_
  refine pm_R_br pm_M175 (pc_q := 152) (st_q := []) (pm_q175_1 (Nat.le_of_ble_eq_true rfl)) rfl ?_
  refine pm_R_lo pm_M175 (pc_q := 153) (pm_q175_1 (Nat.le_of_ble_eq_true rfl)) rfl rfl ?_
  refine pm_R_lo pm_M175 (pc_q := 154) (pm_q175_1 (Nat.le_of_ble_eq_true rfl)) rfl rfl ?_
  refine pm_R_get pm_M175 (pc_q := 157) (v := .ref 47) (pm_q175_1 (Nat.le_of_ble_eq_true rfl)) rfl c41 (by decide) (by omega) rfl rfl ?_
  refine pm_R_op pm_M175 (pc_q := 159) (st_q := [.int 100, .ref 47, .ref 41]) (pm_q175_1 (Nat.le_of_ble_eq_true rfl)) rfl rfl ?_
  refine pm_R_lo pm_M175 (pc_q := 160) (pm_q175_1 (Nat.le_of_ble_eq_true rfl)) rfl rfl ?_
  refine pm_R_cv pm_M175 (pc_q := 163) (a := 41) (ra := [.int k, .int 100, .ref 47]) (rest := []) (ls_q := [.ref 41, .ref 47, .int 100, .int k, pm_no]) (pm_q175_1 (Nat.le_of_ble_eq_true rfl)) rfl (Or.inl rfl) pm_M193 c41 rfl (by decide) (by omega) rfl rfl (Nat.le_of_ble_eq_true rfl) rfl rfl ?_
  have hkk : k.toInt = (k.toInt.toNat : Int) := by omega
  refine rf_x193 (W := 100) (kk := k.toInt.toNat) c41 (by omega) (by decide) (by decide) (by decide) ((G1.2.2 47 (by decide)).trans el) ((G1.2.2 51 (by decide)).trans e51) rfl hkk (by omega) (by decide) (by decide) (fun h2 G2 c47 => ?_)
  show pm_R _ 175 163 [.ref 41, .int 0, .int at_, .int k] [] h2 _
  refine pm_R_br pm_M175 (pc_q := 206) (pm_q175_1 (Nat.le_of_ble_eq_true rfl)) rfl ?_
  refine pm_R_lo pm_M175 (pc_q := 207) (pm_q175_1 (Nat.le_of_ble_eq_true rfl)) rfl rfl ?_
  have d46 : h2.2.2 46 = .inl (0, 16, .inl (upd g (Int32.toNatClampNeg 0) n)) := (G2.2.2 46 (by decide)).trans c46
  refine pm_R_ret pm_M175 (r := some (.int k)) (pm_q175_1 (Nat.le_of_ble_eq_true rfl)) (pm_ret_i _) (K h2 ?_ ⟨G2.1.trans c1, G2.2.1.trans G1.2.1, fun b hb => by rw [G2.2.2 b (fun z => hb (by simp at z; simp [z])), G1.2.2 b (fun z => hb (by simp at z; simp [z]))]⟩ d46 (by rw [c47, el]; rfl))
  refine T.tell (a := 47) (by rw [G2.1, c1]) (fun b b1 b2 => ?_) (by decide) ?_ ?_ ?_
  · rw [G2.2.2 b (by simp; exact b2), G1.2.2 b (by simp; exact b1)]
  · rw [d46]; exact rf_C46 bg rfl (by decide) Bn
  · rw [c47]; exact ⟨_, rfl, rf_put_B bl (fun i hi => hf i hi)⟩
  · exact rf_Xno T e46 d46 ((G2.2.2 48 (by decide)).trans (G1.2.2 48 (by decide))) rfl (by decide)
theorem rf_tail1 (T : rf_T m w h) (e46 : h.2.2 46 = .inl (0, 16, .inl g)) (e51 : h.2.2 51 = .inl (0, 152, .inl f)) (hf : rf_bd 1 f) (Bn : sf_B 0 3 n) (Bk : sf_B 0 2 k) (hf0 : 1 ≤ (f 0).toInt) (hn : ((g 1).toInt = k.toInt ∧ n.toInt = k.toInt + 1) ∨ n.toInt = (g 1).toInt) (K : ∀ h_q, rf_T m w h_q → rf_G [46, 48] h h_q → h_q.2.2 46 = .inl (0, 16, .inl (upd g (Int32.toNatClampNeg 1) n)) → h_q.2.2 48 = .inl (0, 156, .inl (rf_put (rf_fun (h.2.2 48)) f (13 * k.toInt.toNat) 13)) → Q (some (.int k)) h_q) : pm_R (d + 1) 175 122 [.ref 41, .int 1, .int at_, .int k] [.int n, .int 1, .ref 46] h Q := by
  obtain ⟨g_q, eg', bg⟩ := T.2.2.2.1 46 (by decide) (by decide)
  rw [e46] at eg'
  cases eg'
  obtain ⟨gl, el, bl⟩ := T.2.2.2.1 48 (by decide) (by decide)
  have k1 := Bk.1; have k2 := Bk.2
  have h72 := T.1
  refine pm_R_iast pm_M175 (pc_q := 123) (pm_q175_1 (Nat.le_of_ble_eq_true rfl)) e46 (by decide) (by omega) rfl rfl ?_
  obtain ⟨h1, eh1⟩ : ∃ y, y = pm_set h 46 (.inl (0, 16, .inl (upd g (Int32.toNatClampNeg 1) n))) := ⟨_, rfl⟩
  rw [← eh1]
  have G1 : rf_G [46] h h1 := by rw [eh1]; exact rf_G.one _ _ _
  have c46 : h1.2.2 46 = .inl (0, 16, .inl (upd g (Int32.toNatClampNeg 1) n)) := by rw [eh1]; simp [pm_set, va_up]
  have c41 : h1.2.2 41 = .inr (12, rf_fs m w) := (G1.2.2 41 (by decide)).trans T.2.1
  have c1 : h1.1 = h.1 := G1.1
  refine pm_R_lo pm_M175 (pc_q := 124) (pm_q175_1 (Nat.le_of_ble_eq_true rfl)) rfl rfl ?_
  refine pm_R_br pm_M175 (pc_q := 166) (st_q := []) (pm_q175_1 (Nat.le_of_ble_eq_true rfl)) rfl ?_
  refine pm_R_lo pm_M175 (pc_q := 167) (pm_q175_1 (Nat.le_of_ble_eq_true rfl)) rfl rfl ?_
  refine pm_R_lo pm_M175 (pc_q := 168) (pm_q175_1 (Nat.le_of_ble_eq_true rfl)) rfl rfl ?_
  refine pm_R_get pm_M175 (pc_q := 171) (v := .ref 48) (pm_q175_1 (Nat.le_of_ble_eq_true rfl)) rfl c41 (by decide) (by omega) rfl rfl ?_
  refine pm_R_op pm_M175 (pc_q := 173) (st_q := [.int 13, .ref 48, .ref 41]) (pm_q175_1 (Nat.le_of_ble_eq_true rfl)) rfl rfl ?_
  refine pm_R_lo pm_M175 (pc_q := 174) (pm_q175_1 (Nat.le_of_ble_eq_true rfl)) rfl rfl ?_
  refine pm_R_cv pm_M175 (pc_q := 177) (a := 41) (ra := [.int k, .int 13, .ref 48]) (rest := []) (ls_q := [.ref 41, .ref 48, .int 13, .int k, pm_no]) (pm_q175_1 (Nat.le_of_ble_eq_true rfl)) rfl (Or.inl rfl) pm_M193 c41 rfl (by decide) (by omega) rfl rfl (Nat.le_of_ble_eq_true rfl) rfl rfl ?_
  have hkk : k.toInt = (k.toInt.toNat : Int) := by omega
  refine rf_x193 (W := 13) (kk := k.toInt.toNat) c41 (by omega) (by decide) (by decide) (by decide) ((G1.2.2 48 (by decide)).trans el) ((G1.2.2 51 (by decide)).trans e51) rfl hkk (by omega) (by decide) (by decide) (fun h2 G2 c47 => ?_)
  show pm_R _ 175 177 [.ref 41, .int 1, .int at_, .int k] [] h2 _
  refine pm_R_br pm_M175 (pc_q := 206) (pm_q175_1 (Nat.le_of_ble_eq_true rfl)) rfl ?_
  refine pm_R_lo pm_M175 (pc_q := 207) (pm_q175_1 (Nat.le_of_ble_eq_true rfl)) rfl rfl ?_
  have d46 : h2.2.2 46 = .inl (0, 16, .inl (upd g (Int32.toNatClampNeg 1) n)) := (G2.2.2 46 (by decide)).trans c46
  refine pm_R_ret pm_M175 (r := some (.int k)) (pm_q175_1 (Nat.le_of_ble_eq_true rfl)) (pm_ret_i _) (K h2 ?_ ⟨G2.1.trans c1, G2.2.1.trans G1.2.1, fun b hb => by rw [G2.2.2 b (fun z => hb (by simp at z; simp [z])), G1.2.2 b (fun z => hb (by simp at z; simp [z]))]⟩ d46 (by rw [c47, el]; rfl))
  refine T.tell (a := 48) (by rw [G2.1, c1]) (fun b b1 b2 => ?_) (by decide) ?_ ?_ ?_
  · rw [G2.2.2 b (by simp; exact b2), G1.2.2 b (by simp; exact b1)]
  · rw [d46]; exact rf_C46 bg rfl (by decide) Bn
  · rw [c47]; exact ⟨_, rfl, rf_put_B (lo := fun _ => 0) (hi := fun r => if r = 0 then 12 else 9) bl (fun i hi => hf i hi)⟩
  · exact rf_Xrow T e46 el d46 c47 rfl (by omega) hf0 (by rcases hn with ⟨z1, z2⟩ | z1; exact Or.inl ⟨by omega, by omega⟩; exact Or.inr z1)
theorem rf_tail2 (T : rf_T m w h) (e46 : h.2.2 46 = .inl (0, 16, .inl g)) (e51 : h.2.2 51 = .inl (0, 152, .inl f)) (hf : rf_bd 2 f) (Bn : sf_B 0 2 n) (Bk : sf_B 0 1 k) (K : ∀ h_q, rf_T m w h_q → rf_G [46, 49] h h_q → h_q.2.2 46 = .inl (0, 16, .inl (upd g (Int32.toNatClampNeg 2) n)) → h_q.2.2 49 = .inl (0, 1216, .inl (rf_put (rf_fun (h.2.2 49)) f (152 * k.toInt.toNat) 152)) → Q (some (.int k)) h_q) : pm_R (d + 1) 175 122 [.ref 41, .int 2, .int at_, .int k] [.int n, .int 2, .ref 46] h Q := by
  obtain ⟨g_q, eg', bg⟩ := T.2.2.2.1 46 (by decide) (by decide)
  rw [e46] at eg'
  cases eg'
  obtain ⟨gl, el, bl⟩ := T.2.2.2.1 49 (by decide) (by decide)
  have k1 := Bk.1; have k2 := Bk.2
  have h72 := T.1
  refine pm_R_iast pm_M175 (pc_q := 123) (pm_q175_1 (Nat.le_of_ble_eq_true rfl)) e46 (by decide) (by omega) rfl rfl ?_
  obtain ⟨h1, eh1⟩ : ∃ y, y = pm_set h 46 (.inl (0, 16, .inl (upd g (Int32.toNatClampNeg 2) n))) := ⟨_, rfl⟩
  rw [← eh1]
  have G1 : rf_G [46] h h1 := by rw [eh1]; exact rf_G.one _ _ _
  have c46 : h1.2.2 46 = .inl (0, 16, .inl (upd g (Int32.toNatClampNeg 2) n)) := by rw [eh1]; simp [pm_set, va_up]
  have c41 : h1.2.2 41 = .inr (12, rf_fs m w) := (G1.2.2 41 (by decide)).trans T.2.1
  have c1 : h1.1 = h.1 := G1.1
  refine pm_R_lo pm_M175 (pc_q := 124) (pm_q175_1 (Nat.le_of_ble_eq_true rfl)) rfl rfl ?_
  refine pm_R_br pm_M175 (pc_q := 180) (st_q := []) (pm_q175_1 (Nat.le_of_ble_eq_true rfl)) rfl ?_
  refine pm_R_lo pm_M175 (pc_q := 181) (pm_q175_1 (Nat.le_of_ble_eq_true rfl)) rfl rfl ?_
  refine pm_R_lo pm_M175 (pc_q := 182) (pm_q175_1 (Nat.le_of_ble_eq_true rfl)) rfl rfl ?_
  refine pm_R_get pm_M175 (pc_q := 185) (v := .ref 49) (pm_q175_1 (Nat.le_of_ble_eq_true rfl)) rfl c41 (by decide) (by omega) rfl rfl ?_
  refine pm_R_op pm_M175 (pc_q := 188) (st_q := [.int 152, .ref 49, .ref 41]) (pm_q175_1 (Nat.le_of_ble_eq_true rfl)) rfl rfl ?_
  refine pm_R_lo pm_M175 (pc_q := 189) (pm_q175_1 (Nat.le_of_ble_eq_true rfl)) rfl rfl ?_
  refine pm_R_cv pm_M175 (pc_q := 192) (a := 41) (ra := [.int k, .int 152, .ref 49]) (rest := []) (ls_q := [.ref 41, .ref 49, .int 152, .int k, pm_no]) (pm_q175_1 (Nat.le_of_ble_eq_true rfl)) rfl (Or.inl rfl) pm_M193 c41 rfl (by decide) (by omega) rfl rfl (Nat.le_of_ble_eq_true rfl) rfl rfl ?_
  have hkk : k.toInt = (k.toInt.toNat : Int) := by omega
  refine rf_x193 (W := 152) (kk := k.toInt.toNat) c41 (by omega) (by decide) (by decide) (by decide) ((G1.2.2 49 (by decide)).trans el) ((G1.2.2 51 (by decide)).trans e51) rfl hkk (by omega) (by decide) (by decide) (fun h2 G2 c47 => ?_)
  show pm_R _ 175 192 [.ref 41, .int 2, .int at_, .int k] [] h2 _
  refine pm_R_br pm_M175 (pc_q := 206) (pm_q175_1 (Nat.le_of_ble_eq_true rfl)) rfl ?_
  refine pm_R_lo pm_M175 (pc_q := 207) (pm_q175_1 (Nat.le_of_ble_eq_true rfl)) rfl rfl ?_
  have d46 : h2.2.2 46 = .inl (0, 16, .inl (upd g (Int32.toNatClampNeg 2) n)) := (G2.2.2 46 (by decide)).trans c46
  refine pm_R_ret pm_M175 (r := some (.int k)) (pm_q175_1 (Nat.le_of_ble_eq_true rfl)) (pm_ret_i _) (K h2 ?_ ⟨G2.1.trans c1, G2.2.1.trans G1.2.1, fun b hb => by rw [G2.2.2 b (fun z => hb (by simp at z; simp [z])), G1.2.2 b (fun z => hb (by simp at z; simp [z]))]⟩ d46 (by rw [c47, el]; rfl))
  refine T.tell (a := 49) (by rw [G2.1, c1]) (fun b b1 b2 => ?_) (by decide) ?_ ?_ ?_
  · rw [G2.2.2 b (by simp; exact b2), G1.2.2 b (by simp; exact b1)]
  · rw [d46]; exact rf_C46 bg rfl (by decide) Bn
  · rw [c47]; exact ⟨_, rfl, rf_put_B bl (fun i hi => hf i hi)⟩
  · exact rf_Xno T e46 d46 ((G2.2.2 48 (by decide)).trans (G1.2.2 48 (by decide))) rfl (by decide)
theorem rf_tail3 (T : rf_T m w h) (e46 : h.2.2 46 = .inl (0, 16, .inl g)) (e51 : h.2.2 51 = .inl (0, 152, .inl f)) (hf : rf_bd 3 f) (Bn : sf_B 0 2 n) (Bk : sf_B 0 1 k) (K : ∀ h_q, rf_T m w h_q → rf_G [46, 50] h h_q → h_q.2.2 46 = .inl (0, 16, .inl (upd g (Int32.toNatClampNeg 3) n)) → h_q.2.2 50 = .inl (0, 200, .inl (rf_put (rf_fun (h.2.2 50)) f (25 * k.toInt.toNat) 25)) → Q (some (.int k)) h_q) : pm_R (d + 1) 175 122 [.ref 41, .int 3, .int at_, .int k] [.int n, .int 3, .ref 46] h Q := by
  obtain ⟨g_q, eg', bg⟩ := T.2.2.2.1 46 (by decide) (by decide)
  rw [e46] at eg'
  cases eg'
  obtain ⟨gl, el, bl⟩ := T.2.2.2.1 50 (by decide) (by decide)
  have k1 := Bk.1; have k2 := Bk.2
  have h72 := T.1
  refine pm_R_iast pm_M175 (pc_q := 123) (pm_q175_1 (Nat.le_of_ble_eq_true rfl)) e46 (by decide) (by omega) rfl rfl ?_
  obtain ⟨h1, eh1⟩ : ∃ y, y = pm_set h 46 (.inl (0, 16, .inl (upd g (Int32.toNatClampNeg 3) n))) := ⟨_, rfl⟩
  rw [← eh1]
  have G1 : rf_G [46] h h1 := by rw [eh1]; exact rf_G.one _ _ _
  have c46 : h1.2.2 46 = .inl (0, 16, .inl (upd g (Int32.toNatClampNeg 3) n)) := by rw [eh1]; simp [pm_set, va_up]
  have c41 : h1.2.2 41 = .inr (12, rf_fs m w) := (G1.2.2 41 (by decide)).trans T.2.1
  have c1 : h1.1 = h.1 := G1.1
  refine pm_R_lo pm_M175 (pc_q := 124) (pm_q175_1 (Nat.le_of_ble_eq_true rfl)) rfl rfl ?_
  refine pm_R_br pm_M175 (pc_q := 195) (st_q := []) (pm_q175_1 (Nat.le_of_ble_eq_true rfl)) rfl ?_
  refine pm_R_lo pm_M175 (pc_q := 196) (pm_q175_1 (Nat.le_of_ble_eq_true rfl)) rfl rfl ?_
  refine pm_R_lo pm_M175 (pc_q := 197) (pm_q175_1 (Nat.le_of_ble_eq_true rfl)) rfl rfl ?_
  refine pm_R_get pm_M175 (pc_q := 200) (v := .ref 50) (pm_q175_1 (Nat.le_of_ble_eq_true rfl)) rfl c41 (by decide) (by omega) rfl rfl ?_
  refine pm_R_op pm_M175 (pc_q := 202) (st_q := [.int 25, .ref 50, .ref 41]) (pm_q175_1 (Nat.le_of_ble_eq_true rfl)) rfl rfl ?_
  refine pm_R_lo pm_M175 (pc_q := 203) (pm_q175_1 (Nat.le_of_ble_eq_true rfl)) rfl rfl ?_
  refine pm_R_cv pm_M175 (pc_q := 206) (a := 41) (ra := [.int k, .int 25, .ref 50]) (rest := []) (ls_q := [.ref 41, .ref 50, .int 25, .int k, pm_no]) (pm_q175_1 (Nat.le_of_ble_eq_true rfl)) rfl (Or.inl rfl) pm_M193 c41 rfl (by decide) (by omega) rfl rfl (Nat.le_of_ble_eq_true rfl) rfl rfl ?_
  have hkk : k.toInt = (k.toInt.toNat : Int) := by omega
  refine rf_x193 (W := 25) (kk := k.toInt.toNat) c41 (by omega) (by decide) (by decide) (by decide) ((G1.2.2 50 (by decide)).trans el) ((G1.2.2 51 (by decide)).trans e51) rfl hkk (by omega) (by decide) (by decide) (fun h2 G2 c47 => ?_)
  show pm_R _ 175 206 [.ref 41, .int 3, .int at_, .int k] [] h2 _
  refine pm_R_lo pm_M175 (pc_q := 207) (pm_q175_1 (Nat.le_of_ble_eq_true rfl)) rfl rfl ?_
  have d46 : h2.2.2 46 = .inl (0, 16, .inl (upd g (Int32.toNatClampNeg 3) n)) := (G2.2.2 46 (by decide)).trans c46
  refine pm_R_ret pm_M175 (r := some (.int k)) (pm_q175_1 (Nat.le_of_ble_eq_true rfl)) (pm_ret_i _) (K h2 ?_ ⟨G2.1.trans c1, G2.2.1.trans G1.2.1, fun b hb => by rw [G2.2.2 b (fun z => hb (by simp at z; simp [z])), G1.2.2 b (fun z => hb (by simp at z; simp [z]))]⟩ d46 (by rw [c47, el]; rfl))
  refine T.tell (a := 50) (by rw [G2.1, c1]) (fun b b1 b2 => ?_) (by decide) ?_ ?_ ?_
  · rw [G2.2.2 b (by simp; exact b2), G1.2.2 b (by simp; exact b1)]
  · rw [d46]; exact rf_C46 bg rfl (by decide) Bn
  · rw [c47]; exact ⟨_, rfl, rf_put_B bl (fun i hi => hf i hi)⟩
  · exact rf_Xno T e46 d46 ((G2.2.2 48 (by decide)).trans (G1.2.2 48 (by decide))) rfl (by decide)
end TAIL
end
section
/-! copyAll -/
def rf_by (x : Int32) : Int32 := x.toInt8.toInt32
theorem rf_x296t {d : Nat} {m : Nat → Int32} {w : Int64} {h : pm_H} {Q : Option Value → pm_H → Prop} {kf kt : Nat} {g : Nat → Int32} {f t : Int32} (h41 : h.2.2 41 = .inr (12, rf_fs m w)) (h72 : 72 ≤ h.1) (ea : h.2.2 42 = .inl (2, 2400, .inl g)) (hf : f.toInt = kf) (ht : t.toInt = kt) (hf4 : kf < 4) (ht4 : kt < 4) (hne : kf ≠ kt) (K : ∀ (h_q : pm_H) (i : Int32), rf_G [42] h h_q → h_q.2.2 42 = .inl (2, 2400, .inl (rf_put g (fun i => rf_by (g (600 * kf + i))) (600 * kt) 600)) → pm_R (d + 1) 296 39 [.ref 41, .int f, .int t, .int i] [] h_q Q) : pm_R (d + 1) 296 0 [.ref 41, .int f, .int t, pm_no] [] h Q := by
  have e600 : (600 : Int32).toInt = 600 := rfl
  have L : ∀ (u : Nat) (hc : pm_H) (i : Int32) (n : Nat), rf_G [42] h hc → hc.2.2 42 = .inl (2, 2400, .inl (rf_put g (fun i => rf_by (g (600 * kf + i))) (600 * kt) n)) → i.toInt = n → n ≤ 600 → 600 - n = u → pm_R (d + 1) 296 2 [.ref 41, .int f, .int t, .int i] [] hc Q := by
    intro u
    induction u with
    | zero =>
      intro hc i n G ec hi hn hu
      have : n = 600 := by omega
      subst this
      refine pm_R_lo pm_M296 (pc_q := 3) rfl rfl rfl ?_
      refine pm_R_op pm_M296 (pc_q := 6) (st_q := [.int 600, .int i]) rfl rfl rfl ?_
      refine pm_R_icmp pm_M296 (t := 39) (pc_q := 9) rfl rfl rfl (fun c => ?_) (fun c => absurd (Int32.le_iff_toInt_le.mpr (by omega)) c)
      exact K hc i G ec
    | succ u ih =>
      intro hc i n G ec hi hn hu
      have c41 : hc.2.2 41 = .inr (12, rf_fs m w) := (G.2.2 41 (by decide)).trans h41
      have c1 : hc.1 = h.1 := G.1
      refine pm_R_lo pm_M296 (pc_q := 3) rfl rfl rfl ?_
      refine pm_R_op pm_M296 (pc_q := 6) (st_q := [.int 600, .int i]) rfl rfl rfl ?_
      refine pm_R_icmp pm_M296 (t := 39) (pc_q := 9) rfl rfl rfl (fun c => absurd (Int32.le_iff_toInt_le.mp c) (by omega)) (fun c => ?_)
      refine pm_R_lo pm_M296 (pc_q := 10) rfl rfl rfl ?_
      refine pm_R_get pm_M296 (pc_q := 13) (v := .ref 42) rfl rfl c41 (by decide) (by omega) rfl rfl ?_
      refine pm_R_op pm_M296 (pc_q := 16) (st_q := [.int 600, .ref 42]) rfl rfl rfl ?_
      refine pm_R_lo pm_M296 (pc_q := 17) rfl rfl rfl ?_
      refine pm_R_op pm_M296 (pc_q := 18) (st_q := [.int (600 * t), .ref 42]) rfl rfl rfl ?_
      refine pm_R_lo pm_M296 (pc_q := 19) rfl rfl rfl ?_
      refine pm_R_op pm_M296 (pc_q := 20) (st_q := [.int (600 * t + i), .ref 42]) rfl rfl rfl ?_
      have e1 : ((600 : Int32) * t).toInt = 600 * t.toInt := by rw [Jvm.Kit.i32_mul (by rw [e600]; omega) (by rw [e600]; omega), e600]
      have e2 : (600 * t + i).toInt = ((600 * kt + n : Nat) : Int) := by rw [Jvm.Kit.i32_add (by omega) (by omega), e1, hi]; omega
      refine pm_R_lo pm_M296 (pc_q := 21) rfl rfl rfl ?_
      refine pm_R_get pm_M296 (pc_q := 24) (v := .ref 42) rfl rfl c41 (by decide) (by omega) rfl rfl ?_
      refine pm_R_op pm_M296 (pc_q := 27) (st_q := [.int 600, .ref 42, .int (600 * t + i), .ref 42]) rfl rfl rfl ?_
      refine pm_R_lo pm_M296 (pc_q := 28) rfl rfl rfl ?_
      refine pm_R_op pm_M296 (pc_q := 29) (st_q := [.int (600 * f), .ref 42, .int (600 * t + i), .ref 42]) rfl rfl rfl ?_
      refine pm_R_lo pm_M296 (pc_q := 30) rfl rfl rfl ?_
      refine pm_R_op pm_M296 (pc_q := 31) (st_q := [.int (600 * f + i), .ref 42, .int (600 * t + i), .ref 42]) rfl rfl rfl ?_
      have e4 : ((600 : Int32) * f).toInt = 600 * f.toInt := by rw [Jvm.Kit.i32_mul (by rw [e600]; omega) (by rw [e600]; omega), e600]
      have e5 : (600 * f + i).toInt = ((600 * kf + n : Nat) : Int) := by rw [Jvm.Kit.i32_add (by omega) (by omega), e4, hi]; omega
      have e6 : rf_put g (fun i => rf_by (g (600 * kf + i))) (600 * kt) n (600 * kf + n) = g (600 * kf + n) := by unfold rf_put; rw [if_neg (by omega)]
      refine pm_R_bald pm_M296 (pc_q := 32) (v := g (600 * kf + n)) rfl ec (Or.inl rfl) (by decide) (by omega) (rf_inN e5 (by omega)) (by rw [rf_natN e5]; exact e6) rfl ?_
      refine pm_R_bast pm_M296 (pc_q := 33) rfl ec (by decide) (by omega) (rf_inN e2 (by omega)) rfl ?_
      rw [rf_natN e2]
      show pm_R _ 296 33 _ _ (pm_set hc 42 (.inl (2, 2400, .inl (upd (rf_put g (fun i => rf_by (g (600 * kf + i))) (600 * kt) n) (600 * kt + n) ((fun i => rf_by (g (600 * kf + i))) n))))) _
      rw [rf_put_step g (fun i => rf_by (g (600 * kf + i))) (600 * kt) n]
      refine pm_R_lo pm_M296 (pc_q := 36) (ls_q := [.ref 41, .int f, .int t, .int (i + 1)]) (st_q := []) rfl rfl rfl ?_
      refine pm_R_br pm_M296 (pc_q := 2) rfl rfl ?_
      have e3 : (i + 1).toInt = ((n + 1 : Nat) : Int) := by
        have e0 : (1 : Int32).toInt = 1 := rfl
        rw [Jvm.Kit.i32_add (by omega) (by omega), hi, e0]; omega
      exact ih _ (i + 1) (n + 1) (G.trans (rf_G.one _ _ _) (fun k hk => hk)) (by simp [pm_set, va_up]) e3 (by omega) (by omega)
  refine pm_R_op pm_M296 (pc_q := 1) (st_q := [.int 0]) rfl rfl rfl ?_
  refine pm_R_lo pm_M296 (pc_q := 2) (ls_q := [.ref 41, .int f, .int t, .int 0]) (st_q := []) rfl rfl rfl ?_
  exact L _ h 0 0 (rf_G.refl _ _) (by rw [rf_put_0]; exact ea) rfl (Nat.zero_le _) rfl
theorem rf_x296 {d : Nat} {m : Nat → Int32} {w : Int64} {h : pm_H} {Q : Option Value → pm_H → Prop} {kf kt : Nat} {g g43 g44 g45 g46 g47 g48 g49 g50 : Nat → Int32} {f t : Int32} (h41 : h.2.2 41 = .inr (12, rf_fs m w)) (h72 : 72 ≤ h.1) (e42 : h.2.2 42 = .inl (2, 2400, .inl g)) (e43 : h.2.2 43 = .inl (0, 4, .inl g43)) (e44 : h.2.2 44 = .inl (0, 4, .inl g44)) (e45 : h.2.2 45 = .inl (0, 4, .inl g45)) (e46 : h.2.2 46 = .inl (0, 16, .inl g46)) (e47 : h.2.2 47 = .inl (0, 800, .inl g47)) (e48 : h.2.2 48 = .inl (0, 156, .inl g48)) (e49 : h.2.2 49 = .inl (0, 1216, .inl g49)) (e50 : h.2.2 50 = .inl (0, 200, .inl g50)) (hf : f.toInt = kf) (ht : t.toInt = kt) (hf4 : kf < 4) (ht4 : kt < 4) (hne : kf ≠ kt) (K : ∀ h_q, rf_G [42, 43, 44, 45, 46, 47, 48, 49, 50] h h_q → h_q.2.2 42 = .inl (2, 2400, .inl (rf_put g (fun i => rf_by (g (600 * kf + i))) (600 * kt) 600)) → h_q.2.2 43 = .inl (0, 4, .inl (rf_put g43 (fun i => g43 (1 * kf + i)) (1 * kt) 1)) → h_q.2.2 44 = .inl (0, 4, .inl (rf_put g44 (fun i => g44 (1 * kf + i)) (1 * kt) 1)) → h_q.2.2 45 = .inl (0, 4, .inl (rf_put g45 (fun i => g45 (1 * kf + i)) (1 * kt) 1)) → h_q.2.2 46 = .inl (0, 16, .inl (rf_put g46 (fun i => g46 (4 * kf + i)) (4 * kt) 4)) → h_q.2.2 47 = .inl (0, 800, .inl (rf_put g47 (fun i => g47 (200 * kf + i)) (200 * kt) 200)) → h_q.2.2 48 = .inl (0, 156, .inl (rf_put g48 (fun i => g48 (39 * kf + i)) (39 * kt) 39)) → h_q.2.2 49 = .inl (0, 1216, .inl (rf_put g49 (fun i => g49 (304 * kf + i)) (304 * kt) 304)) → h_q.2.2 50 = .inl (0, 200, .inl (rf_put g50 (fun i => g50 (50 * kf + i)) (50 * kt) 50)) → Q none h_q) : pm_R (d + 1) 296 0 [.ref 41, .int f, .int t, pm_no] [] h Q := by
  refine rf_x296t h41 h72 e42 hf ht hf4 ht4 hne (fun h0 i G0 c42 => ?_)
  have k0 : h0.2.2 41 = .inr (12, rf_fs m w) := (G0.2.2 41 (by decide)).trans h41
  have s0 : h0.1 = h.1 := G0.1
  have a0 : h0.2.2 43 = .inl (0, 4, .inl g43) := ((G0.2.2 43 (by decide)).trans e43)
  refine pm_R_lo pm_M296 (pc_q := 40) rfl rfl rfl ?_
  refine pm_R_get pm_M296 (pc_q := 43) (v := .ref 43) rfl rfl k0 (by decide) (by omega) rfl rfl ?_
  refine pm_R_op pm_M296 (pc_q := 44) (st_q := [.int 1, .ref 43]) rfl rfl rfl ?_
  refine pm_R_lo pm_M296 (pc_q := 45) rfl rfl rfl ?_
  refine pm_R_lo pm_M296 (pc_q := 46) rfl rfl rfl ?_
  refine pm_R_cs pm_M296 (pc_q := 49) (ra := [.int t, .int f, .int 1, .ref 43]) (rest := []) (ls_q := [.ref 43, .int 1, .int f, .int t, pm_no]) rfl rfl (Or.inl rfl) pm_M297 rfl rfl (Nat.le_of_ble_eq_true rfl) rfl rfl ?_
  refine rf_x297 (W := 1) (kf := kf) (kt := kt) (by omega) (by decide) (by decide) a0 rfl hf ht (by omega) (by omega) (by decide) hne (fun h1 G1 b0 => ?_)
  show pm_R _ 296 49 [.ref 41, .int f, .int t, .int i] [] h1 _
  have k1 : h1.2.2 41 = .inr (12, rf_fs m w) := (G1.2.2 41 (by decide)).trans k0
  have s1 : h1.1 = h.1 := G1.1.trans s0
  have a1 : h1.2.2 44 = .inl (0, 4, .inl g44) := ((G1.2.2 44 (by decide)).trans ((G0.2.2 44 (by decide)).trans e44))
  refine pm_R_lo pm_M296 (pc_q := 50) rfl rfl rfl ?_
  refine pm_R_get pm_M296 (pc_q := 53) (v := .ref 44) rfl rfl k1 (by decide) (by omega) rfl rfl ?_
  refine pm_R_op pm_M296 (pc_q := 54) (st_q := [.int 1, .ref 44]) rfl rfl rfl ?_
  refine pm_R_lo pm_M296 (pc_q := 55) rfl rfl rfl ?_
  refine pm_R_lo pm_M296 (pc_q := 56) rfl rfl rfl ?_
  refine pm_R_cs pm_M296 (pc_q := 59) (ra := [.int t, .int f, .int 1, .ref 44]) (rest := []) (ls_q := [.ref 44, .int 1, .int f, .int t, pm_no]) rfl rfl (Or.inl rfl) pm_M297 rfl rfl (Nat.le_of_ble_eq_true rfl) rfl rfl ?_
  refine rf_x297 (W := 1) (kf := kf) (kt := kt) (by omega) (by decide) (by decide) a1 rfl hf ht (by omega) (by omega) (by decide) hne (fun h2 G2 b1 => ?_)
  show pm_R _ 296 59 [.ref 41, .int f, .int t, .int i] [] h2 _
  have k2 : h2.2.2 41 = .inr (12, rf_fs m w) := (G2.2.2 41 (by decide)).trans k1
  have s2 : h2.1 = h.1 := G2.1.trans s1
  have a2 : h2.2.2 45 = .inl (0, 4, .inl g45) := ((G2.2.2 45 (by decide)).trans ((G1.2.2 45 (by decide)).trans ((G0.2.2 45 (by decide)).trans e45)))
  refine pm_R_lo pm_M296 (pc_q := 60) rfl rfl rfl ?_
  refine pm_R_get pm_M296 (pc_q := 63) (v := .ref 45) rfl rfl k2 (by decide) (by omega) rfl rfl ?_
  refine pm_R_op pm_M296 (pc_q := 64) (st_q := [.int 1, .ref 45]) rfl rfl rfl ?_
  refine pm_R_lo pm_M296 (pc_q := 65) rfl rfl rfl ?_
  refine pm_R_lo pm_M296 (pc_q := 66) rfl rfl rfl ?_
  refine pm_R_cs pm_M296 (pc_q := 69) (ra := [.int t, .int f, .int 1, .ref 45]) (rest := []) (ls_q := [.ref 45, .int 1, .int f, .int t, pm_no]) rfl rfl (Or.inl rfl) pm_M297 rfl rfl (Nat.le_of_ble_eq_true rfl) rfl rfl ?_
  refine rf_x297 (W := 1) (kf := kf) (kt := kt) (by omega) (by decide) (by decide) a2 rfl hf ht (by omega) (by omega) (by decide) hne (fun h3 G3 b2 => ?_)
  show pm_R _ 296 69 [.ref 41, .int f, .int t, .int i] [] h3 _
  have k3 : h3.2.2 41 = .inr (12, rf_fs m w) := (G3.2.2 41 (by decide)).trans k2
  have s3 : h3.1 = h.1 := G3.1.trans s2
  have a3 : h3.2.2 46 = .inl (0, 16, .inl g46) := ((G3.2.2 46 (by decide)).trans ((G2.2.2 46 (by decide)).trans ((G1.2.2 46 (by decide)).trans ((G0.2.2 46 (by decide)).trans e46))))
  refine pm_R_lo pm_M296 (pc_q := 70) rfl rfl rfl ?_
  refine pm_R_get pm_M296 (pc_q := 73) (v := .ref 46) rfl rfl k3 (by decide) (by omega) rfl rfl ?_
  refine pm_R_op pm_M296 (pc_q := 74) (st_q := [.int 4, .ref 46]) rfl rfl rfl ?_
  refine pm_R_lo pm_M296 (pc_q := 75) rfl rfl rfl ?_
  refine pm_R_lo pm_M296 (pc_q := 76) rfl rfl rfl ?_
  refine pm_R_cs pm_M296 (pc_q := 79) (ra := [.int t, .int f, .int 4, .ref 46]) (rest := []) (ls_q := [.ref 46, .int 4, .int f, .int t, pm_no]) rfl rfl (Or.inl rfl) pm_M297 rfl rfl (Nat.le_of_ble_eq_true rfl) rfl rfl ?_
  refine rf_x297 (W := 4) (kf := kf) (kt := kt) (by omega) (by decide) (by decide) a3 rfl hf ht (by omega) (by omega) (by decide) hne (fun h4 G4 b3 => ?_)
  show pm_R _ 296 79 [.ref 41, .int f, .int t, .int i] [] h4 _
  have k4 : h4.2.2 41 = .inr (12, rf_fs m w) := (G4.2.2 41 (by decide)).trans k3
  have s4 : h4.1 = h.1 := G4.1.trans s3
  have a4 : h4.2.2 47 = .inl (0, 800, .inl g47) := ((G4.2.2 47 (by decide)).trans ((G3.2.2 47 (by decide)).trans ((G2.2.2 47 (by decide)).trans ((G1.2.2 47 (by decide)).trans ((G0.2.2 47 (by decide)).trans e47)))))
  refine pm_R_lo pm_M296 (pc_q := 80) rfl rfl rfl ?_
  refine pm_R_get pm_M296 (pc_q := 83) (v := .ref 47) rfl rfl k4 (by decide) (by omega) rfl rfl ?_
  refine pm_R_op pm_M296 (pc_q := 86) (st_q := [.int 200, .ref 47]) rfl rfl rfl ?_
  refine pm_R_lo pm_M296 (pc_q := 87) rfl rfl rfl ?_
  refine pm_R_lo pm_M296 (pc_q := 88) rfl rfl rfl ?_
  refine pm_R_cs pm_M296 (pc_q := 91) (ra := [.int t, .int f, .int 200, .ref 47]) (rest := []) (ls_q := [.ref 47, .int 200, .int f, .int t, pm_no]) rfl rfl (Or.inl rfl) pm_M297 rfl rfl (Nat.le_of_ble_eq_true rfl) rfl rfl ?_
  refine rf_x297 (W := 200) (kf := kf) (kt := kt) (by omega) (by decide) (by decide) a4 rfl hf ht (by omega) (by omega) (by decide) hne (fun h5 G5 b4 => ?_)
  show pm_R _ 296 91 [.ref 41, .int f, .int t, .int i] [] h5 _
  have k5 : h5.2.2 41 = .inr (12, rf_fs m w) := (G5.2.2 41 (by decide)).trans k4
  have s5 : h5.1 = h.1 := G5.1.trans s4
  have a5 : h5.2.2 48 = .inl (0, 156, .inl g48) := ((G5.2.2 48 (by decide)).trans ((G4.2.2 48 (by decide)).trans ((G3.2.2 48 (by decide)).trans ((G2.2.2 48 (by decide)).trans ((G1.2.2 48 (by decide)).trans ((G0.2.2 48 (by decide)).trans e48))))))
  refine pm_R_lo pm_M296 (pc_q := 92) rfl rfl rfl ?_
  refine pm_R_get pm_M296 (pc_q := 95) (v := .ref 48) rfl rfl k5 (by decide) (by omega) rfl rfl ?_
  refine pm_R_op pm_M296 (pc_q := 97) (st_q := [.int 39, .ref 48]) rfl rfl rfl ?_
  refine pm_R_lo pm_M296 (pc_q := 98) rfl rfl rfl ?_
  refine pm_R_lo pm_M296 (pc_q := 99) rfl rfl rfl ?_
  refine pm_R_cs pm_M296 (pc_q := 102) (ra := [.int t, .int f, .int 39, .ref 48]) (rest := []) (ls_q := [.ref 48, .int 39, .int f, .int t, pm_no]) rfl rfl (Or.inl rfl) pm_M297 rfl rfl (Nat.le_of_ble_eq_true rfl) rfl rfl ?_
  refine rf_x297 (W := 39) (kf := kf) (kt := kt) (by omega) (by decide) (by decide) a5 rfl hf ht (by omega) (by omega) (by decide) hne (fun h6 G6 b5 => ?_)
  show pm_R _ 296 102 [.ref 41, .int f, .int t, .int i] [] h6 _
  have k6 : h6.2.2 41 = .inr (12, rf_fs m w) := (G6.2.2 41 (by decide)).trans k5
  have s6 : h6.1 = h.1 := G6.1.trans s5
  have a6 : h6.2.2 49 = .inl (0, 1216, .inl g49) := ((G6.2.2 49 (by decide)).trans ((G5.2.2 49 (by decide)).trans ((G4.2.2 49 (by decide)).trans ((G3.2.2 49 (by decide)).trans ((G2.2.2 49 (by decide)).trans ((G1.2.2 49 (by decide)).trans ((G0.2.2 49 (by decide)).trans e49)))))))
  refine pm_R_lo pm_M296 (pc_q := 103) rfl rfl rfl ?_
  refine pm_R_get pm_M296 (pc_q := 106) (v := .ref 49) (pm_q296_1 (Nat.le_of_ble_eq_true rfl)) rfl k6 (by decide) (by omega) rfl rfl ?_
  refine pm_R_op pm_M296 (pc_q := 109) (st_q := [.int 304, .ref 49]) (pm_q296_1 (Nat.le_of_ble_eq_true rfl)) rfl rfl ?_
  refine pm_R_lo pm_M296 (pc_q := 110) (pm_q296_1 (Nat.le_of_ble_eq_true rfl)) rfl rfl ?_
  refine pm_R_lo pm_M296 (pc_q := 111) (pm_q296_1 (Nat.le_of_ble_eq_true rfl)) rfl rfl ?_
  refine pm_R_cs pm_M296 (pc_q := 114) (ra := [.int t, .int f, .int 304, .ref 49]) (rest := []) (ls_q := [.ref 49, .int 304, .int f, .int t, pm_no]) (pm_q296_1 (Nat.le_of_ble_eq_true rfl)) rfl (Or.inl rfl) pm_M297 rfl rfl (Nat.le_of_ble_eq_true rfl) rfl rfl ?_
  refine rf_x297 (W := 304) (kf := kf) (kt := kt) (by omega) (by decide) (by decide) a6 rfl hf ht (by omega) (by omega) (by decide) hne (fun h7 G7 b6 => ?_)
  show pm_R _ 296 114 [.ref 41, .int f, .int t, .int i] [] h7 _
  have k7 : h7.2.2 41 = .inr (12, rf_fs m w) := (G7.2.2 41 (by decide)).trans k6
  have s7 : h7.1 = h.1 := G7.1.trans s6
  have a7 : h7.2.2 50 = .inl (0, 200, .inl g50) := ((G7.2.2 50 (by decide)).trans ((G6.2.2 50 (by decide)).trans ((G5.2.2 50 (by decide)).trans ((G4.2.2 50 (by decide)).trans ((G3.2.2 50 (by decide)).trans ((G2.2.2 50 (by decide)).trans ((G1.2.2 50 (by decide)).trans ((G0.2.2 50 (by decide)).trans e50))))))))
  refine pm_R_lo pm_M296 (pc_q := 115) (pm_q296_1 (Nat.le_of_ble_eq_true rfl)) rfl rfl ?_
  refine pm_R_get pm_M296 (pc_q := 118) (v := .ref 50) (pm_q296_1 (Nat.le_of_ble_eq_true rfl)) rfl k7 (by decide) (by omega) rfl rfl ?_
  refine pm_R_op pm_M296 (pc_q := 120) (st_q := [.int 50, .ref 50]) (pm_q296_1 (Nat.le_of_ble_eq_true rfl)) rfl rfl ?_
  refine pm_R_lo pm_M296 (pc_q := 121) (pm_q296_1 (Nat.le_of_ble_eq_true rfl)) rfl rfl ?_
  refine pm_R_lo pm_M296 (pc_q := 122) (pm_q296_1 (Nat.le_of_ble_eq_true rfl)) rfl rfl ?_
  refine pm_R_cs pm_M296 (pc_q := 125) (ra := [.int t, .int f, .int 50, .ref 50]) (rest := []) (ls_q := [.ref 50, .int 50, .int f, .int t, pm_no]) (pm_q296_1 (Nat.le_of_ble_eq_true rfl)) rfl (Or.inl rfl) pm_M297 rfl rfl (Nat.le_of_ble_eq_true rfl) rfl rfl ?_
  refine rf_x297 (W := 50) (kf := kf) (kt := kt) (by omega) (by decide) (by decide) a7 rfl hf ht (by omega) (by omega) (by decide) hne (fun h8 G8 b7 => ?_)
  show pm_R _ 296 125 [.ref 41, .int f, .int t, .int i] [] h8 _
  have G : rf_G [42, 43, 44, 45, 46, 47, 48, 49, 50] h h8 := (rf_G.refl [42, 43, 44, 45, 46, 47, 48, 49, 50] h) |>.trans G0 (by decide) |>.trans G1 (by decide) |>.trans G2 (by decide) |>.trans G3 (by decide) |>.trans G4 (by decide) |>.trans G5 (by decide) |>.trans G6 (by decide) |>.trans G7 (by decide) |>.trans G8 (by decide)
  exact pm_R_ret pm_M296 (r := none) (pm_q296_1 (Nat.le_of_ble_eq_true rfl)) rfl (K h8 G ((G8.2.2 42 (by decide)).trans ((G7.2.2 42 (by decide)).trans ((G6.2.2 42 (by decide)).trans ((G5.2.2 42 (by decide)).trans ((G4.2.2 42 (by decide)).trans ((G3.2.2 42 (by decide)).trans ((G2.2.2 42 (by decide)).trans ((G1.2.2 42 (by decide)).trans c42)))))))) ((G8.2.2 43 (by decide)).trans ((G7.2.2 43 (by decide)).trans ((G6.2.2 43 (by decide)).trans ((G5.2.2 43 (by decide)).trans ((G4.2.2 43 (by decide)).trans ((G3.2.2 43 (by decide)).trans ((G2.2.2 43 (by decide)).trans b0))))))) ((G8.2.2 44 (by decide)).trans ((G7.2.2 44 (by decide)).trans ((G6.2.2 44 (by decide)).trans ((G5.2.2 44 (by decide)).trans ((G4.2.2 44 (by decide)).trans ((G3.2.2 44 (by decide)).trans b1)))))) ((G8.2.2 45 (by decide)).trans ((G7.2.2 45 (by decide)).trans ((G6.2.2 45 (by decide)).trans ((G5.2.2 45 (by decide)).trans ((G4.2.2 45 (by decide)).trans b2))))) ((G8.2.2 46 (by decide)).trans ((G7.2.2 46 (by decide)).trans ((G6.2.2 46 (by decide)).trans ((G5.2.2 46 (by decide)).trans b3)))) ((G8.2.2 47 (by decide)).trans ((G7.2.2 47 (by decide)).trans ((G6.2.2 47 (by decide)).trans b4))) ((G8.2.2 48 (by decide)).trans ((G7.2.2 48 (by decide)).trans b5)) ((G8.2.2 49 (by decide)).trans b6) b7)
theorem rf_put_U {g : Nat → Int32} {lo hi : Int} {s p n : Nat} (hg : ∀ j, sf_B lo hi (g j)) : ∀ j, sf_B lo hi (rf_put g (fun i => g (s + i)) p n j) := by
  intro j
  unfold rf_put
  split
  · exact hg _
  · exact hg _
theorem rf_put_M {g : Nat → Int32} {lo hi : Nat → Int} {P c kf kt W : Nat} (hW : W = P * c) (hg : ∀ j, sf_B (lo (j % P)) (hi (j % P)) (g j)) : ∀ j, sf_B (lo (j % P)) (hi (j % P)) (rf_put g (fun i => g (W * kf + i)) (W * kt) W j) := by
  intro j
  unfold rf_put
  by_cases h : W * kt ≤ j ∧ j < W * kt + W
  · rw [if_pos h]
    have e1 : j % P = (j - W * kt) % P := by
      have e2 : j = P * (c * kt) + (j - W * kt) := by rw [← Nat.mul_assoc, ← hW]; omega
      rw [e2, Nat.mul_add_mod]
      congr 1
      rw [← Nat.mul_assoc, ← hW]; omega
    have e3 : (W * kf + (j - W * kt)) % P = (j - W * kt) % P := by rw [hW, Nat.mul_assoc, Nat.mul_add_mod]
    have := hg (W * kf + (j - W * kt))
    rw [e3, ← e1] at this
    exact this
  · rw [if_neg h]; exact hg j
theorem rf_c296 {d : Nat} {m : Nat → Int32} {w : Int64} {h : pm_H} {Q : Option Value → pm_H → Prop} {a0 a1 : Int32} (T : rf_T m w h) (Ba0 : sf_B 0 3 a0) (Ba1 : sf_B 0 3 a1) (hne : ¬ a0.toInt = a1.toInt) (K : ∀ (m_q : Nat → Int32) (w_q : Int64) (h_q : pm_H), rf_T m_q w_q h_q → rf_G [42, 43, 44, 45, 46, 47, 48, 49, 50] h h_q → rf_W [] m m_q → (∀ g : Nat → Int32, h.2.2 43 = .inl (0, 4, .inl g) → h_q.2.2 43 = .inl (0, 4, .inl (upd g a1.toNatClampNeg (g a0.toNatClampNeg)))) → Q none h_q) : pm_R (d + 1) 296 0 [.ref 41, .int a0, .int a1, pm_no] [] h Q := by
  have f1 := Ba0.1; have f2 := Ba0.2; have t1 := Ba1.1; have t2 := Ba1.2
  obtain ⟨g42, e42⟩ := T.2.2.2.1 42 (by decide) (by decide)
  obtain ⟨g43, e43, b43⟩ := T.2.2.2.1 43 (by decide) (by decide)
  obtain ⟨g44, e44, b44⟩ := T.2.2.2.1 44 (by decide) (by decide)
  obtain ⟨g45, e45, b45⟩ := T.2.2.2.1 45 (by decide) (by decide)
  obtain ⟨g46, e46, b46⟩ := T.2.2.2.1 46 (by decide) (by decide)
  obtain ⟨g47, e47, b47⟩ := T.2.2.2.1 47 (by decide) (by decide)
  obtain ⟨g48, e48, b48⟩ := T.2.2.2.1 48 (by decide) (by decide)
  obtain ⟨g49, e49, b49⟩ := T.2.2.2.1 49 (by decide) (by decide)
  obtain ⟨g50, e50, b50⟩ := T.2.2.2.1 50 (by decide) (by decide)
  refine rf_x296 (kf := a0.toInt.toNat) (kt := a1.toInt.toNat) T.2.1 T.1 e42 e43 e44 e45 e46 e47 e48 e49 e50 (by omega) (by omega) (by omega) (by omega) (by omega) (fun h2 G c42 c43 c44 c45 c46 c47 c48 c49 c50 => ?_)
  refine K m w h2 ⟨by rw [G.1]; exact T.1, (G.2.2 41 (by decide)).trans T.2.1, T.2.2.1, fun a h1 h3 => ?_, ?_⟩ G (rf_W.refl _ _) ?_
  · by_cases hb : a < 51
    · match a, h1, hb with
      | 42, _, _ => rw [c42]; exact ⟨_, rfl⟩
      | 43, _, _ => rw [c43]; exact ⟨_, rfl, rf_put_U b43⟩
      | 44, _, _ => rw [c44]; exact ⟨_, rfl, rf_put_U b44⟩
      | 45, _, _ => rw [c45]; exact ⟨_, rfl, rf_put_U b45⟩
      | 46, _, _ => rw [c46]; exact ⟨_, rfl, rf_put_M (P := 4) (c := 1) (lo := fun _ => 0) (hi := fun r => if r = 1 then 3 else 2) rfl b46⟩
      | 47, _, _ => rw [c47]; exact ⟨_, rfl, rf_put_M (P := 100) (c := 2) rfl b47⟩
      | 48, _, _ => rw [c48]; exact ⟨_, rfl, rf_put_M (P := 13) (c := 3) (lo := fun _ => 0) (hi := fun r => if r = 0 then 12 else 9) rfl b48⟩
      | 49, _, _ => rw [c49]; exact ⟨_, rfl, rf_put_M (P := 152) (c := 2) rfl b49⟩
      | 50, _, _ => rw [c50]; exact ⟨_, rfl, rf_put_M (P := 25) (c := 2) rfl b50⟩
      | n + 51, _, h => exact absurd h (by omega)
    · rw [G.2.2 a (by simp; omega)]; exact T.2.2.2.1 a h1 h3
  · intro x y ex ey c r hc hr hlt
    rw [c46] at ex
    rw [c48] at ey
    cases ex
    cases ey
    by_cases hk : c = a1.toInt.toNat
    · subst hk
      have z1 : rf_put g46 (fun i => g46 (4 * a0.toInt.toNat + i)) (4 * a1.toInt.toNat) 4 (4 * a1.toInt.toNat + 1) = g46 (4 * a0.toInt.toNat + 1) := by
        unfold rf_put; rw [if_pos (by omega)]; congr 1; omega
      have z2 : rf_put g48 (fun i => g48 (39 * a0.toInt.toNat + i)) (39 * a1.toInt.toNat) 39 (39 * a1.toInt.toNat + 13 * r) = g48 (39 * a0.toInt.toNat + 13 * r) := by
        unfold rf_put; rw [if_pos (by omega)]; congr 1; omega
      rw [z1] at hlt
      rw [z2]
      exact T.2.2.2.2 g46 g48 e46 e48 _ r (by omega) hr hlt
    · have z1 : rf_put g46 (fun i => g46 (4 * a0.toInt.toNat + i)) (4 * a1.toInt.toNat) 4 (4 * c + 1) = g46 (4 * c + 1) := by
        unfold rf_put; rw [if_neg (by omega)]
      have z2 : rf_put g48 (fun i => g48 (39 * a0.toInt.toNat + i)) (39 * a1.toInt.toNat) 39 (39 * c + 13 * r) = g48 (39 * c + 13 * r) := by
        unfold rf_put; rw [if_neg (by omega)]
      rw [z1] at hlt
      rw [z2]
      exact T.2.2.2.2 g46 g48 e46 e48 c r hc hr hlt
  · intro g eg
    rw [e43] at eg
    cases eg
    rw [c43]
    congr 4
    funext j
    have k0 : a0.toNatClampNeg = a0.toInt.toNat := rfl
    have k1 : a1.toNatClampNeg = a1.toInt.toNat := rfl
    unfold rf_put upd
    by_cases hj : j = a1.toNatClampNeg
    · rw [if_pos hj, if_pos (by omega)]
      show g43 (1 * a0.toInt.toNat + (j - 1 * a1.toInt.toNat)) = g43 a0.toNatClampNeg
      have e9 : 1 * a0.toInt.toNat + (j - 1 * a1.toInt.toNat) = a0.toNatClampNeg := by omega
      rw [e9]
    · rw [if_neg hj, if_neg (by omega)]
end
section
theorem sf_n0 : Int32.toNatClampNeg 0 = 0 := rfl
theorem sf_neT {a b c e : Int} {x y : Int32} (hx : sf_B a b x) (hy : sf_B c e y) (h : b < c ∨ e < a) : ¬ x.toInt = y.toInt := by
  have h1 := hx.1; have h2 := hx.2; have h3 := hy.1; have h4 := hy.2
  omega
section RFB
variable {d mid pc pc_q : Nat} {ls st : List Value} {h : pm_H} {Q : Option Value → pm_H → Prop} {q : pm_M} {l : List (Nat × Instr × Nat)} {L : Nat} {x : Int32} {m : Nat → Int32} {w : Int64}
theorem rf_R_bst (hM : pm_Mt mid q l) (T : rf_T m w h) {f : Nat → Int32} {j : Int32} (hf : pm_find l pc = some (.bastore, L)) (hc : h.2.2 42 = .inl (2, 2400, .inl f)) (hj : pm_in j 2400 = true) (hp : pc + 1 = pc_q) (kk : ∀ h_q, rf_T m w h_q → rf_G [42] h h_q → h_q.2.2 42 = .inl (2, 2400, .inl (upd f j.toNatClampNeg x.toInt8.toInt32)) → pm_R d mid pc_q ls st h_q Q) : pm_R d mid pc ls (.int x :: .int j :: .ref 42 :: st) h Q :=
  pm_R_bast hM hf hc (by decide) (Nat.lt_of_lt_of_le (by decide) T.1) hj hp (kk _ (rf_T.arr2 T (by decide) (by decide) (by decide) (by decide) ⟨_, rfl⟩) (rf_G.one _ _ _) (by simp [pm_set, va_up]))
theorem rf_R_zst (hM : pm_Mt mid q l) (T : rf_T m w h) {f : Nat → Int32} {j : Int32} (hf : pm_find l pc = some (.bastore, L)) (hc : h.2.2 71 = .inl (3, 3, .inl f)) (hj : pm_in j 3 = true) (hp : pc + 1 = pc_q) (kk : ∀ h_q, rf_T m w h_q → rf_G [71] h h_q → h_q.2.2 71 = .inl (3, 3, .inl (upd f j.toNatClampNeg (x &&& 1))) → pm_R d mid pc_q ls st h_q Q) : pm_R d mid pc ls (.int x :: .int j :: .ref 71 :: st) h Q :=
  pm_R_zast hM hf hc (by decide) (Nat.lt_of_lt_of_le (by decide) T.1) hj hp (kk _ (rf_T.arr2 T (by decide) (by decide) (by decide) (by decide) ⟨_, rfl⟩) (rf_G.one _ _ _) (by simp [pm_set, va_up]))
end RFB
end
