def p2_Q (r : Option Value) (h : pm_H) : Prop := r = some (.int 1) ∧ h.1 ≤ 500016 ∧ h.2.1 ≤ 7000000
def p2_m0 : Nat → Int32 := fun k => if k = 2 ∨ k = 4 ∨ k = 8 ∨ k = 14 ∨ k = 15 then -1 else if k = 7 then 4 else 0
theorem p2_B0 (k : Nat) : sf_B (cl_lo k) (cl_hi k) (p2_m0 k) := by
  by_cases h : k < 16
  · rcases (show k = 0 ∨ k = 1 ∨ k = 2 ∨ k = 3 ∨ k = 4 ∨ k = 5 ∨ k = 6 ∨ k = 7 ∨ k = 8 ∨ k = 9 ∨ k = 10 ∨ k = 11 ∨ k = 12 ∨ k = 13 ∨ k = 14 ∨ k = 15 by omega) with w | w | w | w | w | w | w | w | w | w | w | w | w | w | w | w <;> (subst w; exact ⟨by decide, by decide⟩)
  · have e : p2_m0 k = 0 := by unfold p2_m0; rw [if_neg (by omega), if_neg (by omega)]
    rw [e]
    have h1 : cl_lo k ≤ 0 := by unfold cl_lo; split <;> decide
    have h2 : 0 ≤ cl_hi k := by unfold cl_hi; split <;> decide
    have e0 : (0 : Int32).toInt = 0 := rfl
    exact ⟨by rw [e0]; exact h1, by rw [e0]; exact h2⟩
set_option maxRecDepth 100000 in
set_option maxHeartbeats 4000000 in
/-- both sides, new -/
theorem p2_I0 {fm : Bool} {L : Nat} {xs : Nat → Int32} {f : Nat → pm_E} (hf : ∀ i, i < 72 → f i = pm_fF fm L xs i) : p2_I L xs 0 (72, 52657, f) := by
  have nO : ∀ k, cl_O (fun _ => 0) k (fun _ => none) := fun k i b hb => by cases hb
  have hv : ∀ i x, i < 72 → pm_fF fm L xs i = x → f i = x := fun i x h e => (hf i h).trans e
  have nz : ∀ a k, k ≠ 0 → ((fun _ => 0) : cl_K) a = k → False := fun a k hk e => hk e.symm
  have G0 : cl_G (fun _ => 0) f := ⟨fun a ha => absurd rfl ha, fun a ha => (nz a 1 (by decide) ha).elim, fun a ha => (nz a 7 (by decide) ha).elim, fun a ha => (nz a 9 (by decide) ha).elim, fun a ha => (nz a 13 (by decide) ha).elim, fun a ha => (nz a 15 (by decide) ha).elim, fun a ha => (nz a 22 (by decide) ha).elim, fun a ha => (nz a 24 (by decide) ha).elim, hv 1 _ (by decide) rfl, hv 2 _ (by decide) rfl, hv 3 _ (by decide) rfl, hv 4 _ (by decide) rfl, hv 5 _ (by decide) rfl, hv 6 _ (by decide) rfl, hv 7 _ (by decide) rfl, hv 8 _ (by decide) rfl, hv 9 _ (by decide) rfl, hv 10 _ (by decide) rfl, hv 11 _ (by decide) rfl, hv 12 _ (by decide) rfl, hv 13 _ (by decide) rfl, hv 14 _ (by decide) rfl⟩
  have N0 : cl_NF (fun _ => none) (fun _ => none) (fun _ => none) (fun _ => none) (fun _ => 0) := ⟨fun i hi => absurd hi (by show ¬ (i : Int) < 0; omega), fun i hi => absurd hi (by show ¬ (i : Int) < 0; omega), fun i hi => absurd hi (by show ¬ (i : Int) < 0; omega), fun i hi => absurd hi (by show ¬ (i : Int) < 0; omega)⟩
  have T0 : cl_T (fun _ => 0) f p2_m0 (fun _ => none) (72, 52657, f) := by
    refine ⟨Nat.le_refl _, hv 16 _ (by decide) rfl, hv 17 _ (by decide) rfl, hv 25 _ (by decide) rfl, hv 30 _ (by decide) rfl, hv 31 _ (by decide) rfl, hv 33 _ (by decide) rfl, p2_B0, fun a h1 h2 => ?_, N0.back (hv 19 _ (by decide) rfl) (hv 20 _ (by decide) rfl) (hv 21 _ (by decide) rfl) (hv 22 _ (by decide) rfl) (hv 23 _ (by decide) rfl), fun a ha => absurd rfl ha, fun a h1 _ => absurd h1 (show ¬ 1 ≤ 0 by decide), ⟨fun a ha => (nz a 15 (by decide) ha).elim, fun a ha => (nz a 22 (by decide) ha).elim, fun a ha => (nz a 23 (by decide) ha).elim, fun a ha => (nz a 24 (by decide) ha).elim, fun a ha => (nz a 25 (by decide) ha).elim, fun a ha => (nz a 26 (by decide) ha).elim, fun a ha => (nz a 27 (by decide) ha).elim, fun a ha => (nz a 28 (by decide) ha).elim⟩, ⟨fun b hb => (by cases hb), fun b hb => (by cases hb), fun b hb => (by cases hb)⟩, fun a _ => rfl⟩
    show cl_C (fun _ => 0) a (f a)
    rw [hf a (by omega)]
    match a, h1, h2 with
    | 16, _, _ => exact trivial
    | 17, _, _ => exact trivial
    | 18, _, _ => exact ⟨_, rfl⟩
    | 19, _, _ => exact ⟨_, rfl, nO _⟩
    | 20, _, _ => exact ⟨_, rfl, nO _⟩
    | 21, _, _ => exact ⟨_, rfl, nO _⟩
    | 22, _, _ => exact ⟨_, rfl, nO _⟩
    | 23, _, _ => exact ⟨_, rfl, fun j => sf_z (by decide) (by split <;> decide)⟩
    | 24, _, _ => exact ⟨_, rfl, nO _⟩
    | 25, _, _ => exact trivial
    | 26, _, _ => exact ⟨_, rfl⟩
    | 27, _, _ => exact ⟨_, rfl⟩
    | 28, _, _ => exact ⟨_, rfl⟩
    | 29, _, _ => exact ⟨_, rfl⟩
    | 30, _, _ => exact trivial
    | 31, _, _ => exact trivial
    | 32, _, _ => exact ⟨_, rfl⟩
    | 33, _, _ => exact trivial
    | 34, _, _ => exact ⟨_, rfl⟩
    | 35, _, _ => exact ⟨_, rfl⟩
    | 36, _, _ => exact ⟨_, rfl⟩
    | 37, _, _ => exact ⟨_, rfl, nO _⟩
    | 38, _, _ => exact ⟨_, rfl⟩
    | 39, _, _ => exact ⟨_, rfl⟩
    | 40, _, _ => exact ⟨_, rfl⟩
    | a + 41, _, h => exact absurd h (by omega)
  refine ⟨_, f, p2_m0, fun _ => none, fun _ => 0, 0, G0, T0, rf_T0 hf, ⟨_, hv 28 _ (by decide) rfl, fun j => sf_z (by decide) (by decide)⟩, hv 0 _ (by decide) rfl, ⟨fun _ => 0, fun _ => 0, fun _ => none, hv 43 _ (by decide) rfl, hv 71 _ (by decide) rfl, hv 24 _ (by decide) rfl, rfl, fun i _ => ⟨fun _ => rfl, fun _ => rfl⟩, fun i t _ ht => (by cases ht), fun i k t _ _ ht => (by cases ht)⟩, ⟨_, hv 37 _ (by decide) rfl, by show cl_p37 (fun _ => none) + cl_p0 none + 52657 ≤ 124992 + 1000 * 0; decide⟩, by show 72 ≤ 72 + 20 * 0; decide⟩
set_option maxRecDepth 100000 in
set_option maxHeartbeats 4000000 in
theorem p6_loop {L : Nat} {xs : Nat → Int32} (hL : L ≤ 3584) : ∀ (k j n : Nat) (h : pm_H), k = 513 - j → n = 7 * j → j ≤ 512 → p6_I L xs j h → pm_R 100 0 18 [.ref 0, .ref 16, .ref 41, .int (Int32.ofNat n)] [] h p2_Q := by
  intro k
  induction k with
  | zero => intro j n h hk hn hj I; omega
  | succ k ih =>
    intro j n h hk en hj I
    obtain ⟨ck, E, m, o, mr, wr, G, T, Tr, Y, e0, S, R, hc⟩ := id I.1
    refine pm_R_lo pm_M0 (pc_q := 19) rfl rfl rfl ?_
    refine pm_R_lo pm_M0 (pc_q := 20) rfl rfl rfl ?_
    refine pm_R_alen0 pm_M0 (pc_q := 21) (v := Int32.ofNat L) rfl ((T.old (by decide)).trans e0) (T.lt (by decide)) rfl rfl ?_
    refine pm_R_op pm_M0 (pc_q := 23) (st_q := [.int 7, .int (Int32.ofNat L), .int (Int32.ofNat n)]) rfl rfl rfl ?_
    refine sf_R_isub pm_M0 (pc_q := 24) rfl rfl (sf_ofB (k := 3584) hL (by decide)) sf_k7 (by decide) (by decide) (fun z e B => ?_)
    have tn : (Int32.ofNat n).toInt = n := sf_ofT (by omega)
    have tL : (Int32.ofNat L).toInt = L := sf_ofT (by omega)
    have t7 : (7 : Int32).toInt = 7 := rfl
    refine pm_R_icmp pm_M0 (t := 2123) (pc_q := 27) rfl rfl rfl (fun _ => ?_) (fun c => ?_)
    · refine pm_R_op pm_M0 (pc_q := 2124) (st_q := [.int 1]) (pm_q0_27 (Nat.le_of_ble_eq_true rfl)) rfl rfl ?_
      obtain ⟨fr, er, br⟩ := R
      exact pm_R_ret pm_M0 (r := some (.int 1)) (pm_q0_27 (Nat.le_of_ble_eq_true rfl)) rfl ⟨rfl, by omega, by omega⟩
    · have c_q := Int32.le_iff_toInt_le.mp (Int32.not_lt.mp c)
      have hn : n + 7 ≤ L := by omega
      have nxt : ∀ h_q, p6_I L xs (j + 1) h_q → pm_R 100 0 2117 [.ref 0, .ref 16, .ref 41, .int (Int32.ofNat n)] [] h_q p2_Q := fun h_q I' => by
        refine pm_R_lo pm_M0 (pc_q := 2120) (ls_q := [.ref 0, .ref 16, .ref 41, .int (Int32.ofNat n + 7)]) (st_q := []) (pm_q0_27 (Nat.le_of_ble_eq_true rfl)) rfl rfl ?_
        refine pm_R_br pm_M0 (pc_q := 18) (st_q := []) (pm_q0_27 (Nat.le_of_ble_eq_true rfl)) rfl ?_
        rw [p2_ad (n := n) (c := 7) (k := 7) rfl]
        exact ih (j + 1) (n + 7) h_q (by omega) (by omega) (by omega) I'
      obtain ⟨x0, v0⟩ : ∃ y, xs (Int32.toNatClampNeg (Int32.ofNat n)) = y := ⟨_, rfl⟩
      refine pm_R_lo pm_M0 (pc_q := 28) rfl rfl rfl ?_
      refine pm_R_lo pm_M0 (pc_q := 29) rfl rfl rfl ?_
      refine pm_R_iald pm_M0 (pc_q := 30) (v := x0) rfl ((T.old (by decide)).trans e0) (T.lt (by decide)) (p2_in (by omega) hL) v0 rfl ?_
      refine pm_R_op pm_M0 (pc_q := 32) (st_q := [.int 63, .int x0]) rfl rfl rfl ?_
      refine sf_R_iandE pm_M0 (pc_q := 33) rfl rfl sf_k63 (by decide) (fun z2 e2 B2 => ?_)
      have hz := cl_nat32 B2 (by decide)
      have z1 := B2.1
      have z2' := B2.2
      rw [hz]
      have hk : z2.toInt.toNat < 64 := by omega
      generalize z2.toInt.toNat = kk at hk
      match kk, hk with
      | 0, _ => refine pm_R_br pm_M0 (pc_q := 220) (st_q := []) rfl rfl ?_; exact p6_k0 I hn hL nxt
      | 1, _ => refine pm_R_br pm_M0 (pc_q := 283) (st_q := []) rfl rfl ?_; exact p6_k1 I hn hL nxt
      | 2, _ => refine pm_R_br pm_M0 (pc_q := 306) (st_q := []) rfl rfl ?_; exact p6_k2 I hn hL nxt
      | 3, _ => refine pm_R_br pm_M0 (pc_q := 339) (st_q := []) rfl rfl ?_; exact p6_k3 I hn hL nxt
      | 4, _ => refine pm_R_br pm_M0 (pc_q := 362) (st_q := []) rfl rfl ?_; exact p6_k4 I hn hL nxt
      | 5, _ => refine pm_R_br pm_M0 (pc_q := 395) (st_q := []) rfl rfl ?_; exact p6_k5 I hn hL nxt
      | 6, _ => refine pm_R_br pm_M0 (pc_q := 438) (st_q := []) rfl rfl ?_; exact p6_k6 I hn hL nxt
      | 7, _ => refine pm_R_br pm_M0 (pc_q := 481) (st_q := []) rfl rfl ?_; exact p6_k7 I hn hL nxt
      | 8, _ => refine pm_R_br pm_M0 (pc_q := 514) (st_q := []) rfl rfl ?_; exact p6_k8 I hn hL nxt
      | 9, _ => refine pm_R_br pm_M0 (pc_q := 577) (st_q := []) rfl rfl ?_; exact p6_k9 I hn hL nxt
      | 10, _ => refine pm_R_br pm_M0 (pc_q := 620) (st_q := []) rfl rfl ?_; exact p6_k10 I hn hL nxt
      | 11, _ => refine pm_R_br pm_M0 (pc_q := 663) (st_q := []) rfl rfl ?_; exact p6_k11 I hn hL nxt
      | 12, _ => refine pm_R_br pm_M0 (pc_q := 746) (st_q := []) rfl rfl ?_; exact p6_k12 I hn hL nxt
      | 13, _ => refine pm_R_br pm_M0 (pc_q := 799) (st_q := []) rfl rfl ?_; exact p6_k13 I hn hL nxt
      | 14, _ => refine pm_R_br pm_M0 (pc_q := 842) (st_q := []) rfl rfl ?_; exact p6_k14 I hn hL nxt
      | 15, _ => refine pm_R_br pm_M0 (pc_q := 875) (st_q := []) rfl rfl ?_; exact p6_k15 I hn hL nxt
      | 16, _ => refine pm_R_br pm_M0 (pc_q := 928) (st_q := []) rfl rfl ?_; exact p6_k16 I hn hL nxt
      | 17, _ => refine pm_R_br pm_M0 (pc_q := 971) (st_q := []) rfl rfl ?_; exact p6_k17 I hn hL nxt
      | 18, _ => refine pm_R_br pm_M0 (pc_q := 1014) (st_q := []) rfl rfl ?_; exact p6_k18 I hn hL nxt
      | 19, _ => refine pm_R_br pm_M0 (pc_q := 1047) (st_q := []) rfl rfl ?_; exact p6_k19 I hn hL nxt
      | 20, _ => refine pm_R_br pm_M0 (pc_q := 1090) (st_q := []) rfl rfl ?_; exact p6_k20 I hn hL nxt
      | 21, _ => refine pm_R_br pm_M0 (pc_q := 1123) (st_q := []) rfl rfl ?_; exact p6_k21 I hn hL nxt
      | 22, _ => refine pm_R_br pm_M0 (pc_q := 1166) (st_q := []) rfl rfl ?_; exact p6_k22 I hn hL nxt
      | 23, _ => refine pm_R_br pm_M0 (pc_q := 1209) (st_q := []) rfl rfl ?_; exact p6_k23 I hn hL nxt
      | 24, _ => refine pm_R_br pm_M0 (pc_q := 1262) (st_q := []) rfl rfl ?_; exact p6_k24 I hn hL nxt
      | 25, _ => refine pm_R_br pm_M0 (pc_q := 1325) (st_q := []) rfl rfl ?_; exact p6_k25 I hn hL nxt
      | 26, _ => refine pm_R_br pm_M0 (pc_q := 1368) (st_q := []) rfl rfl ?_; exact p6_k26 I hn hL nxt
      | 27, _ => refine pm_R_br pm_M0 (pc_q := 1411) (st_q := []) rfl rfl ?_; exact p6_k27 I hn hL nxt
      | 28, _ => refine pm_R_br pm_M0 (pc_q := 1474) (st_q := []) rfl rfl ?_; exact p6_k28 I hn hL nxt
      | 29, _ => refine pm_R_br pm_M0 (pc_q := 1533) (st_q := []) rfl rfl ?_; exact p6_k29 I hn hL nxt
      | 30, _ => refine pm_R_br pm_M0 (pc_q := 1576) (st_q := []) rfl rfl ?_; exact p6_k30 I hn hL nxt
      | 31, _ => refine pm_R_br pm_M0 (pc_q := 1619) (st_q := []) rfl rfl ?_; exact p6_k31 I hn hL nxt
      | 32, _ => refine pm_R_br pm_M0 (pc_q := 1662) (st_q := []) rfl rfl ?_; exact p6_k32 I hn hL nxt
      | 33, _ => refine pm_R_br pm_M0 (pc_q := 1695) (st_q := []) rfl rfl ?_; exact p6_k33 I hn hL nxt
      | 34, _ => refine pm_R_br pm_M0 (pc_q := 1758) (st_q := []) rfl rfl ?_; exact p6_k34 I hn hL nxt
      | 35, _ => refine pm_R_br pm_M0 (pc_q := 1801) (st_q := []) rfl rfl ?_; exact p6_k35 I hn hL nxt
      | 36, _ => refine pm_R_br pm_M0 (pc_q := 1844) (st_q := []) rfl rfl ?_; exact p6_k36 I hn hL nxt
      | 37, _ => refine pm_R_br pm_M0 (pc_q := 1897) (st_q := []) rfl rfl ?_; exact p6_k37 I hn hL nxt
      | 38, _ => refine pm_R_br pm_M0 (pc_q := 1972) (st_q := []) rfl rfl ?_; exact p6_k38 I hn hL nxt
      | 39, _ => refine pm_R_br pm_M0 (pc_q := 2005) (st_q := []) rfl rfl ?_; exact p6_k39 I hn hL nxt
      | 40, _ => refine pm_R_br pm_M0 (pc_q := 2048) (st_q := []) rfl rfl ?_; exact p6_k40 I hn hL nxt
      | 41, _ => refine pm_R_br pm_M0 (pc_q := 2071) (st_q := []) rfl rfl ?_; exact p6_k41 I hn hL nxt
      | 42, _ => refine pm_R_br pm_M0 (pc_q := 2094) (st_q := []) rfl rfl ?_; exact p6_k42 I hn hL nxt
      | kk + 43, hk => refine pm_R_tswD pm_M0 (pc_q := 2117) rfl (Or.inr (by rw [sf_ofT (by omega)]; omega)) rfl ?_; exact nxt h ⟨p2_up I.1, I.2⟩
/-- the whole run -/
theorem p2_run (L : Nat) (xs : Nat → Int32) (hL : L ≤ 3584) (fm : Bool) : ∃ (n : Nat) (h_q : pm_H), pm_run n 100 0 0 pm_l0 [] (pm_h0 fm L xs) = some (some (.int 1), h_q) ∧ h_q.1 ≤ 500016 ∧ h_q.2.1 ≤ 7000000 := by
  obtain ⟨n, ⟨r, h_q⟩, e, q1, q2, q3⟩ := p1_init fm L xs p2_Q (fun f hf => p6_loop hL 513 0 0 _ rfl rfl (by decide) (p6_I0 hf (p2_I0 hf)))
  exact ⟨n, h_q, by rw [e]; show some (r, h_q) = _; rw [show r = some (.int 1) from q1], q2, q3⟩
