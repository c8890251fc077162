theorem rf_T.arr2 {m : Nat → Int32} {w : Int64} {h : pm_H} {a : Nat} {x : pm_E} (T : rf_T m w h) (h1 : 42 ≤ a) (h2 : a < 72) (n1 : a ≠ 46) (n2 : a ≠ 48) (hx : rf_C a x) : rf_T m w (pm_set h a x) := by
  have e : ∀ b, b ≠ a → (pm_set h a x).2.2 b = h.2.2 b := fun b hb => by simp [pm_set, va_up, hb]
  have e0 : (pm_set h a x).2.2 a = x := by simp [pm_set, va_up]
  refine ⟨T.1, by rw [e 41 (by omega)]; exact T.2.1, T.2.2.1, fun b b1 b2 => ?_, by rw [e 46 (by omega), e 48 (by omega)]; exact T.2.2.2.2⟩
  by_cases hb : b = a
  · subst hb; rw [e0]; exact hx
  · rw [e b hb]; exact T.2.2.2.1 b b1 b2
theorem rf_R_ist2 {d mid pc pc_q : Nat} {ls st : List Value} {h : pm_H} {Q : Option Value → pm_H → Prop} {q : pm_M} {l : List (Nat × Instr × Nat)} {L : Nat} {x : Int32} {m : Nat → Int32} {w : Int64} (hM : pm_Mt mid q l) (T : rf_T m w h) {a n : Nat} {f : Nat → Int32} {j : Int32} (hf : pm_find l pc = some (.iastore, L)) (hc : h.2.2 a = .inl (0, n, .inl f)) (h1 : 42 ≤ a ∧ a < 46) (_h2 : True) (hj : pm_in j n = true) (hC : rf_C a (.inl (0, n, .inl (upd f j.toNatClampNeg x)))) (hp : pc + 1 = pc_q) (kk : ∀ h_q, rf_T m w h_q → rf_G [a] h h_q → h_q.2.2 a = .inl (0, n, .inl (upd f j.toNatClampNeg x)) → pm_R d mid pc_q ls st h_q Q) : pm_R d mid pc ls (.int x :: .int j :: .ref a :: st) h Q :=
  pm_R_iast hM hf hc (by omega) (Nat.lt_of_lt_of_le (show a < 72 by omega) T.1) hj hp (kk _ (rf_T.arr2 T h1.1 (by omega) (by omega) (by omega) hC) (rf_G.one _ _ _) (by simp [pm_set, va_up]))
theorem sf_ne0 {x : Int32} (h : ¬ x = 0) : ¬ x.toInt = 0 := fun e => h (Int32.toInt_inj.mp e)
theorem rf_mu {r s r1 s1 o : Int32} {N : Nat} (hN : (600 - r.toInt).toNat + (if s.toInt = 0 then 0 else 1) = N) (hs : ¬ s.toInt = 0) (h1 : r.toInt ≤ o.toInt) (h2 : o.toInt ≤ r1.toInt) (Z : o.toInt + 1 ≤ r1.toInt ∨ s1.toInt = 0) (hr : r1.toInt ≤ 600) : (600 - r1.toInt).toNat + (if s1.toInt = 0 then 0 else 1) < N := by
  rw [if_neg hs] at hN
  by_cases h : s1.toInt = 0
  · rw [if_pos h]; omega
  · rw [if_neg h]
    rcases Z with z | z
    · omega
    · exact absurd z h
theorem rf_zero {f : Nat → Int32} {x z : Int32} {a b : Int} (h : ∀ j : Nat, (j : Int) < x.toInt → f j = 0) (e : z.toInt = x.toInt + 1) (B : sf_B a b x) (ha : 0 ≤ a) : ∀ j : Nat, (j : Int) < z.toInt → upd f x.toNatClampNeg 0 j = 0 := by
  intro j hj
  have h1 := B.1
  have e0 : x.toNatClampNeg = x.toInt.toNat := rfl
  unfold upd
  by_cases h2 : j = x.toNatClampNeg
  · rw [if_pos h2]
  · rw [if_neg h2]; exact h j (by omega)
theorem rf_z0 (s j : Nat) : sf_B (rf_t0 s j) (rf_t1 s j) 0 := by
  have e0 : (0 : Int32).toInt = 0 := rfl
  match s with
  | 0 => exact ⟨by rw [e0]; show rf_l0 j ≤ 0; unfold rf_l0; split <;> omega, by rw [e0]; show 0 ≤ rf_l1 j; unfold rf_l1; repeat (first | omega | split)⟩
  | 1 => exact ⟨by rw [e0]; exact Int.le_refl 0, by rw [e0]; show (0 : Int) ≤ if j = 0 then 12 else 9; split <;> omega⟩
  | 2 => exact ⟨by rw [e0]; show rf_m0 j ≤ 0; unfold rf_m0; repeat (first | omega | split), by rw [e0]; show 0 ≤ rf_m1 j; unfold rf_m1; repeat (first | omega | split)⟩
  | n + 3 => exact ⟨by rw [e0]; show rf_h0 j ≤ 0; unfold rf_h0; repeat (first | omega | split), by rw [e0]; show 0 ≤ rf_h1 j; unfold rf_h1; repeat (first | omega | split)⟩
theorem rf_upd0 {f : Nat → Int32} (h : ∀ j : Nat, j < 152 → f j = 0) (j : Nat) (hj : j < 152) : upd f (Int32.toNatClampNeg 0) 0 j = 0 := by
  show (if j = 0 then (0 : Int32) else f j) = 0
  split
  · rfl
  · exact h j hj
theorem rf_all0_0 {f : Nat → Int32} (h : ∀ j : Nat, j < 152 → f j = 0) : rf_ct 0 (upd f (Int32.toNatClampNeg 0) 0) ∧ rf_bd 0 (upd f (Int32.toNatClampNeg 0) 0) := by
  refine ⟨⟨?_, ?_⟩, fun j hj => ?_⟩
  · rw [rf_upd0 h 0 (by decide)]; exact ⟨by decide, by decide⟩
  · rw [rf_upd0 h 1 (by decide)]; exact ⟨by decide, by decide⟩
  · have : j < 100 := hj
    rw [rf_upd0 h j (by omega)]; exact rf_z0 0 j
theorem rf_all0_1 {f : Nat → Int32} (h : ∀ j : Nat, j < 152 → f j = 0) : rf_ct 1 (upd f (Int32.toNatClampNeg 0) 0) ∧ rf_bd 1 (upd f (Int32.toNatClampNeg 0) 0) := by
  refine ⟨?_, fun j hj => ?_⟩
  · show sf_B 0 12 _
    rw [rf_upd0 h 0 (by decide)]; exact ⟨by decide, by decide⟩
  · have : j < 13 := hj
    rw [rf_upd0 h j (by omega)]; exact rf_z0 1 j
theorem rf_all0_2 {f : Nat → Int32} (h : ∀ j : Nat, j < 152 → f j = 0) : rf_ct 2 (upd f (Int32.toNatClampNeg 0) 4) ∧ rf_bd 2 (upd f (Int32.toNatClampNeg 0) 4) := by
  refine ⟨?_, fun j hj => ?_⟩
  · show sf_B 0 50 (f 1)
    rw [h 1 (by decide)]; exact ⟨by decide, by decide⟩
  · have : j < 152 := hj
    show sf_B _ _ (if j = 0 then (4 : Int32) else f j)
    split
    · rename_i e; subst e; exact ⟨by decide, by decide⟩
    · rw [h j (by omega)]; exact rf_z0 2 j
theorem rf_all0_3 {f : Nat → Int32} (h : ∀ j : Nat, j < 152 → f j = 0) : rf_ct 3 (upd f (Int32.toNatClampNeg 0) 0) ∧ rf_bd 3 (upd f (Int32.toNatClampNeg 0) 0) := by
  refine ⟨?_, fun j hj => ?_⟩
  · show sf_B 0 8 _
    rw [rf_upd0 h 0 (by decide)]; exact ⟨by decide, by decide⟩
  · have : j < 25 := hj
    rw [rf_upd0 h j (by omega)]; exact rf_z0 3 j
theorem sf_upd_eq {f : Nat → Int32} {k : Nat} {x : Int32} : upd f k x k = x := if_pos rfl
theorem sf_upd_nec {f : Nat → Int32} {k j : Nat} {x : Int32} (h : j ≠ k) : upd f k x j = f j := if_neg h
