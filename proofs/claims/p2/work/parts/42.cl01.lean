set_option maxRecDepth 100000 in
set_option maxHeartbeats 4000000 in
/-- SilentTable.passed -/
theorem cl_c151 {d : Nat} {ck : cl_K} {E : Nat → pm_E} {m : Nat → Int32} {o : Nat → Option Nat} {h : pm_H} {Q : Option Value → pm_H → Prop} {a0 : Int32} {a1 : Int32} {a2 : Int32} (G : cl_G ck E) (T : cl_T ck E m o h)  (K : ∀ (r : Int32), sf_B (-1) 5 r → Q (some (.int r)) h) : pm_R (d + 4) 151 0 [.ref 16, .int a0, .int a1, .int a2] [] h Q := by
  refine pm_R_lo pm_M151 (pc' := 1) rfl rfl rfl ?_
  refine pm_R_lo pm_M151 (pc' := 2) rfl rfl rfl ?_
  refine pm_R_lo pm_M151 (pc' := 3) rfl rfl rfl ?_
  refine pm_R_lo pm_M151 (pc' := 4) rfl rfl rfl ?_
  refine pm_R_cv pm_M151 (pc' := 7) (a := 16) (ra := [.int a2, .int a1, .int a0]) (rest := []) (ls' := [.ref 16, .int a0, .int a1, .int a2, pm_no]) rfl rfl (Or.inl rfl) pm_M152 T.e16 rfl (by decide) (T.lt (by decide)) rfl rfl (Nat.le_of_ble_eq_true rfl) rfl rfl ?_
  refine pm_R_lo pm_M152 (pc' := 1) rfl rfl rfl ?_
  refine pm_R_lo pm_M152 (pc' := 2) rfl rfl rfl ?_
  refine pm_R_cv pm_M152 (pc' := 5) (a := 16) (ra := [.int a0]) (rest := []) (ls' := [.ref 16, .int a0]) rfl rfl (Or.inl rfl) pm_M139 T.e16 rfl (by decide) (T.lt (by decide)) rfl rfl (Nat.le_of_ble_eq_true rfl) rfl rfl ?_
  refine pm_R_lo pm_M139 (pc' := 1) rfl rfl rfl ?_
  refine pm_R_ifc pm_M139 (t := 17) (pc' := 4) rfl rfl rfl (fun c1 => ?_) (fun c1 => ?_)
  · have B2 : sf_B (-2147483648) (-1) a0 := sf_ltL c1 (sf_any a0) sf_k0
    refine pm_R_op pm_M139 (pc' := 18) (st' := [.null]) rfl rfl rfl ?_
    refine pm_R_br pm_M139 (pc' := 30) rfl rfl ?_
    refine pm_R_ret pm_M139 (r := some (.null)) rfl rfl ?_
    show pm_R _ 152 5 [.ref 16, .int a0, .int a1, .int a2, pm_no] [.null] _ _
    refine pm_R_lo pm_M152 (pc' := 7) (ls' := [.ref 16, .int a0, .int a1, .int a2, .null]) (st' := []) rfl rfl rfl ?_
    refine pm_R_lo pm_M152 (pc' := 9) rfl rfl rfl ?_
    refine pm_R_br pm_M152 (pc' := 35) rfl rfl ?_
    refine pm_R_op pm_M152 (pc' := 36) (st' := [.int (-1)]) rfl rfl rfl ?_
    refine pm_R_ret pm_M152 (r := some (.int (-1))) rfl rfl ?_
    show pm_R _ 151 7 [.ref 16, .int a0, .int a1, .int a2] [.int (-1)] _ _
    exact pm_R_ret pm_M151 (r := some (.int (-1))) rfl rfl (K (-1) (sf_weak sf_kn1 (by decide) (by decide)))
  · have B3 : sf_B 0 2147483647 a0 := sf_leR (Int32.not_lt.mp c1) sf_k0 (sf_any a0)
    refine pm_R_lo pm_M139 (pc' := 5) rfl rfl rfl ?_
    refine pm_R_lo pm_M139 (pc' := 6) rfl rfl rfl ?_
    refine pm_R_get pm_M139 (pc' := 9) (v := .ref 17) rfl rfl T.e16 (by decide) (T.lt (by decide)) rfl rfl ?_
    refine pm_R_get pm_M139 (pc' := 12) (v := .ref 23) rfl rfl T.e17 (by decide) (T.lt (by decide)) rfl rfl ?_
    refine pm_R_op pm_M139 (pc' := 13) (st' := [.int 2, .ref 23, .int a0]) rfl rfl rfl ?_
    obtain ⟨f7, e8, b9⟩ := T.C 23 (by decide) (by decide)
    obtain ⟨z4, ez5⟩ : ∃ y, f7 (Int32.toNatClampNeg 2) = y := ⟨_, rfl⟩
    have B6 : sf_B 0 2 z4 := ez5 ▸ (b9 2)
    refine pm_R_iald pm_M139 (pc' := 14) (v := z4) rfl e8 (T.lt (by decide)) rfl ez5 rfl ?_
    refine pm_R_icmp pm_M139 (t := 21) (pc' := 17) rfl rfl rfl (fun c10 => ?_) (fun c10 => ?_)
    · have B11 : sf_B 0 1 a0 := sf_ltL c10 B3 B6
      have B12 : sf_B 1 2 z4 := sf_ltR c10 B3 B6
      refine pm_R_lo pm_M139 (pc' := 22) rfl rfl rfl ?_
      refine pm_R_get pm_M139 (pc' := 25) (v := .ref 17) rfl rfl T.e16 (by decide) (T.lt (by decide)) rfl rfl ?_
      refine pm_R_get pm_M139 (pc' := 28) (v := .ref 21) rfl rfl T.e17 (by decide) (T.lt (by decide)) rfl rfl ?_
      refine pm_R_lo pm_M139 (pc' := 29) rfl rfl rfl ?_
      obtain ⟨f13, e14, b15⟩ := T.C 21 (by decide) (by decide)
      obtain ⟨l16, hx17⟩ := cl_there2 T e8 e14 ez5 c10 B11 (by decide)
      have hk18 := b15 _ _ hx17
      refine pm_R_aald pm_M139 (pc' := 30) (v := .ref l16) rfl e14 (by decide) (by decide) (by decide) (T.lt (by decide)) (sf_in B11 (by decide) (by decide)) (by rw [hx17]; rfl) rfl ?_
      refine pm_R_ret pm_M139 (r := some (.ref l16)) rfl rfl ?_
      show pm_R _ 152 5 [.ref 16, .int a0, .int a1, .int a2, pm_no] [.ref l16] _ _
      refine pm_R_lo pm_M152 (pc' := 7) (ls' := [.ref 16, .int a0, .int a1, .int a2, .ref l16]) (st' := []) rfl rfl rfl ?_
      refine pm_R_lo pm_M152 (pc' := 9) rfl rfl rfl ?_
      refine pm_R_br pm_M152 (pc' := 12) rfl rfl ?_
      refine pm_R_lo pm_M152 (pc' := 13) rfl rfl rfl ?_
      refine pm_R_lo pm_M152 (pc' := 14) rfl rfl rfl ?_
      refine pm_R_icmp pm_M152 (t := 35) (pc' := 17) rfl rfl rfl (fun c19 => ?_) (fun c19 => ?_)
      · refine pm_R_op pm_M152 (pc' := 36) (st' := [.int (-1)]) rfl rfl rfl ?_
        refine pm_R_ret pm_M152 (r := some (.int (-1))) rfl rfl ?_
        show pm_R _ 151 7 [.ref 16, .int a0, .int a1, .int a2] [.int (-1)] _ _
        exact pm_R_ret pm_M151 (r := some (.int (-1))) rfl rfl (K (-1) (sf_weak sf_kn1 (by decide) (by decide)))
      · skip
        refine pm_R_lo pm_M152 (pc' := 19) rfl rfl rfl ?_
        refine pm_R_lo pm_M152 (pc' := 20) rfl rfl rfl ?_
        obtain ⟨s20, n21, fd22, fg23, fs24, h25, h26, h27, eE28, eE29, eE30, eE31, b32⟩ := (G.2.2.2.1 l16 hk18).2.2.2
        have kq33 := G.2.2.2.1 l16 hk18
        refine pm_R_cv pm_M152 (pc' := 23) (a := l16) (ra := [.int a1]) (rest := []) (ls' := [.ref l16, .int a1]) rfl rfl (Or.inl rfl) pm_M143 (T.im hk18 (by decide) (by decide) eE28) rfl (G.ge hk18 (by decide)) (T.al hk18 (by decide)) rfl rfl (Nat.le_of_ble_eq_true rfl) rfl rfl ?_
        refine pm_R_lo pm_M143 (pc' := 1) rfl rfl rfl ?_
        refine pm_R_ifc pm_M143 (t := 16) (pc' := 4) rfl rfl rfl (fun c34 => ?_) (fun c34 => ?_)
        · have B35 : sf_B (-2147483648) (-1) a1 := sf_ltL c34 (sf_any a1) sf_k0
          refine pm_R_op pm_M143 (pc' := 17) (st' := [.int 0]) rfl rfl rfl ?_
          refine pm_R_ret pm_M143 (r := some (.int 0)) rfl rfl ?_
          show pm_R _ 152 23 [.ref 16, .int a0, .int a1, .int a2, .ref l16] [.int 0] _ _
          refine pm_R_br pm_M152 (pc' := 35) (st' := []) rfl rfl ?_
          refine pm_R_op pm_M152 (pc' := 36) (st' := [.int (-1)]) rfl rfl rfl ?_
          refine pm_R_ret pm_M152 (r := some (.int (-1))) rfl rfl ?_
          show pm_R _ 151 7 [.ref 16, .int a0, .int a1, .int a2] [.int (-1)] _ _
          exact pm_R_ret pm_M151 (r := some (.int (-1))) rfl rfl (K (-1) (sf_weak sf_kn1 (by decide) (by decide)))
        · have B36 : sf_B 0 2147483647 a1 := sf_leR (Int32.not_lt.mp c34) sf_k0 (sf_any a1)
          refine pm_R_lo pm_M143 (pc' := 5) rfl rfl rfl ?_
          refine pm_R_lo pm_M143 (pc' := 6) rfl rfl rfl ?_
          refine pm_R_get pm_M143 (pc' := 9) (v := .int (Int32.ofNat s20)) rfl rfl (T.im hk18 (by decide) (by decide) eE28) (G.ge hk18 (by decide)) (T.al hk18 (by decide)) rfl rfl ?_
          refine pm_R_icmp pm_M143 (t := 16) (pc' := 12) rfl rfl rfl (fun c37 => ?_) (fun c37 => ?_)
          · have B38 : sf_B 1 2147483647 a1 := sf_leR c37 (sf_ofB1 h26 h25 (by decide)) B36
            refine pm_R_op pm_M143 (pc' := 17) (st' := [.int 0]) rfl rfl rfl ?_
            refine pm_R_ret pm_M143 (r := some (.int 0)) rfl rfl ?_
            show pm_R _ 152 23 [.ref 16, .int a0, .int a1, .int a2, .ref l16] [.int 0] _ _
            refine pm_R_br pm_M152 (pc' := 35) (st' := []) rfl rfl ?_
            refine pm_R_op pm_M152 (pc' := 36) (st' := [.int (-1)]) rfl rfl rfl ?_
            refine pm_R_ret pm_M152 (r := some (.int (-1))) rfl rfl ?_
            show pm_R _ 151 7 [.ref 16, .int a0, .int a1, .int a2] [.int (-1)] _ _
            exact pm_R_ret pm_M151 (r := some (.int (-1))) rfl rfl (K (-1) (sf_weak sf_kn1 (by decide) (by decide)))
          · have B39 : sf_B 0 5 a1 := sf_ltL (Int32.not_le.mp c37) B36 (sf_ofB1 h26 h25 (by decide))
            refine pm_R_op pm_M143 (pc' := 13) (st' := [.int 1]) rfl rfl rfl ?_
            refine pm_R_br pm_M143 (pc' := 17) rfl rfl ?_
            refine pm_R_ret pm_M143 (r := some (.int 1)) rfl rfl ?_
            show pm_R _ 152 23 [.ref 16, .int a0, .int a1, .int a2, .ref l16] [.int 1] _ _
            refine pm_R_br pm_M152 (pc' := 26) (st' := []) rfl rfl ?_
            refine pm_R_lo pm_M152 (pc' := 28) rfl rfl rfl ?_
            refine pm_R_lo pm_M152 (pc' := 29) rfl rfl rfl ?_
            refine pm_R_cv pm_M152 (pc' := 32) (a := l16) (ra := [.int a2]) (rest := []) (ls' := [.ref l16, .int a2]) rfl rfl (Or.inl rfl) pm_M143 (T.im hk18 (by decide) (by decide) eE28) rfl (G.ge hk18 (by decide)) (T.al hk18 (by decide)) rfl rfl (Nat.le_of_ble_eq_true rfl) rfl rfl ?_
            refine pm_R_lo pm_M143 (pc' := 1) rfl rfl rfl ?_
            refine pm_R_ifc pm_M143 (t := 16) (pc' := 4) rfl rfl rfl (fun c40 => ?_) (fun c40 => ?_)
            · have B41 : sf_B (-2147483648) (-1) a2 := sf_ltL c40 (sf_any a2) sf_k0
              refine pm_R_op pm_M143 (pc' := 17) (st' := [.int 0]) rfl rfl rfl ?_
              refine pm_R_ret pm_M143 (r := some (.int 0)) rfl rfl ?_
              show pm_R _ 152 32 [.ref 16, .int a0, .int a1, .int a2, .ref l16] [.int 0] _ _
              refine pm_R_br pm_M152 (pc' := 35) (st' := []) rfl rfl ?_
              refine pm_R_op pm_M152 (pc' := 36) (st' := [.int (-1)]) rfl rfl rfl ?_
              refine pm_R_ret pm_M152 (r := some (.int (-1))) rfl rfl ?_
              show pm_R _ 151 7 [.ref 16, .int a0, .int a1, .int a2] [.int (-1)] _ _
              exact pm_R_ret pm_M151 (r := some (.int (-1))) rfl rfl (K (-1) (sf_weak sf_kn1 (by decide) (by decide)))
            · have B42 : sf_B 0 2147483647 a2 := sf_leR (Int32.not_lt.mp c40) sf_k0 (sf_any a2)
              refine pm_R_lo pm_M143 (pc' := 5) rfl rfl rfl ?_
              refine pm_R_lo pm_M143 (pc' := 6) rfl rfl rfl ?_
              refine pm_R_get pm_M143 (pc' := 9) (v := .int (Int32.ofNat s20)) rfl rfl (T.im hk18 (by decide) (by decide) eE28) (G.ge hk18 (by decide)) (T.al hk18 (by decide)) rfl rfl ?_
              refine pm_R_icmp pm_M143 (t := 16) (pc' := 12) rfl rfl rfl (fun c43 => ?_) (fun c43 => ?_)
              · have B44 : sf_B 1 2147483647 a2 := sf_leR c43 (sf_ofB1 h26 h25 (by decide)) B42
                refine pm_R_op pm_M143 (pc' := 17) (st' := [.int 0]) rfl rfl rfl ?_
                refine pm_R_ret pm_M143 (r := some (.int 0)) rfl rfl ?_
                show pm_R _ 152 32 [.ref 16, .int a0, .int a1, .int a2, .ref l16] [.int 0] _ _
                refine pm_R_br pm_M152 (pc' := 35) (st' := []) rfl rfl ?_
                refine pm_R_op pm_M152 (pc' := 36) (st' := [.int (-1)]) rfl rfl rfl ?_
                refine pm_R_ret pm_M152 (r := some (.int (-1))) rfl rfl ?_
                show pm_R _ 151 7 [.ref 16, .int a0, .int a1, .int a2] [.int (-1)] _ _
                exact pm_R_ret pm_M151 (r := some (.int (-1))) rfl rfl (K (-1) (sf_weak sf_kn1 (by decide) (by decide)))
              · have B45 : sf_B 0 5 a2 := sf_ltL (Int32.not_le.mp c43) B42 (sf_ofB1 h26 h25 (by decide))
                refine pm_R_op pm_M143 (pc' := 13) (st' := [.int 1]) rfl rfl rfl ?_
                refine pm_R_br pm_M143 (pc' := 17) rfl rfl ?_
                refine pm_R_ret pm_M143 (r := some (.int 1)) rfl rfl ?_
                show pm_R _ 152 32 [.ref 16, .int a0, .int a1, .int a2, .ref l16] [.int 1] _ _
                refine pm_R_br pm_M152 (pc' := 37) (st' := []) rfl rfl ?_
                refine pm_R_lo pm_M152 (pc' := 39) rfl rfl rfl ?_
                refine pm_R_lo pm_M152 (pc' := 40) rfl rfl rfl ?_
                refine pm_R_lo pm_M152 (pc' := 41) rfl rfl rfl ?_
                refine pm_R_cv pm_M152 (pc' := 44) (a := l16) (ra := [.int a2, .int a1]) (rest := []) (ls' := [.ref l16, .int a1, .int a2, pm_no, pm_no]) rfl rfl (Or.inl rfl) pm_M153 (T.im hk18 (by decide) (by decide) eE28) rfl (G.ge hk18 (by decide)) (T.al hk18 (by decide)) rfl rfl (Nat.le_of_ble_eq_true rfl) rfl rfl ?_
                refine cl_c153 (d := d + 0) G T hk18 B39 B45 (fun r46 X53 B47 => ?_)
                show pm_R _ 152 44 [.ref 16, .int a0, .int a1, .int a2, .ref l16] [.int r46] _ _
                refine pm_R_ret pm_M152 (r := some (.int r46)) rfl (pm_ret_i _) ?_
                show pm_R _ 151 7 [.ref 16, .int a0, .int a1, .int a2] [.int r46] _ _
                exact pm_R_ret pm_M151 (r := some (.int r46)) rfl (pm_ret_i _) (K r46 B47)
    · skip
      refine pm_R_op pm_M139 (pc' := 18) (st' := [.null]) rfl rfl rfl ?_
      refine pm_R_br pm_M139 (pc' := 30) rfl rfl ?_
      refine pm_R_ret pm_M139 (r := some (.null)) rfl rfl ?_
      show pm_R _ 152 5 [.ref 16, .int a0, .int a1, .int a2, pm_no] [.null] _ _
      refine pm_R_lo pm_M152 (pc' := 7) (ls' := [.ref 16, .int a0, .int a1, .int a2, .null]) (st' := []) rfl rfl rfl ?_
      refine pm_R_lo pm_M152 (pc' := 9) rfl rfl rfl ?_
      refine pm_R_br pm_M152 (pc' := 35) rfl rfl ?_
      refine pm_R_op pm_M152 (pc' := 36) (st' := [.int (-1)]) rfl rfl rfl ?_
      refine pm_R_ret pm_M152 (r := some (.int (-1))) rfl rfl ?_
      show pm_R _ 151 7 [.ref 16, .int a0, .int a1, .int a2] [.int (-1)] _ _
      exact pm_R_ret pm_M151 (r := some (.int (-1))) rfl rfl (K (-1) (sf_weak sf_kn1 (by decide) (by decide)))

set_option maxRecDepth 100000 in
set_option maxHeartbeats 4000000 in
/-- java/util/Arrays.fill -/
theorem cl_c102_32 {d : Nat} {ck : cl_K} {E : Nat → pm_E} {m : Nat → Int32} {o : Nat → Option Nat} {h : pm_H} {Q : Option Value → pm_H → Prop} {a1 : Int32} {a2 : Int32} {a3 : Int64} (G : cl_G ck E) (T : cl_T ck E m o h) (Ba1 : sf_B 0 468 a1) (Ba2 : sf_B 0 468 a2) (R : a1 ≤ a2) (K : ∀ (m' : Nat → Int32) (h' : pm_H), cl_T ck E m' o h' → rf_G [32] h h' → rf_W [] m m' → Q none h') : pm_R (d + 1) 102 0 [.ref 32, .int a1, .int a2, .long a3, pm_no, pm_no] [] h Q := by
  refine pm_R_lo pm_M102 (pc' := 1) rfl rfl rfl ?_
  obtain ⟨f1, e2⟩ := T.C 32 (by decide) (by decide)
  refine pm_R_alen pm_M102 (pc' := 2) (v := 468) rfl e2 (by decide) (T.lt (by decide)) (by decide) rfl rfl ?_
  refine pm_R_lo pm_M102 (pc' := 3) rfl rfl rfl ?_
  refine pm_R_lo pm_M102 (pc' := 4) rfl rfl rfl ?_
  refine pm_R_cs pm_M102 (pc' := 7) (ra := [.int a2, .int a1, .int 468]) (rest := []) (ls' := [.int 468, .int a1, .int a2]) rfl rfl (Or.inl rfl) pm_M50 rfl rfl (Nat.le_of_ble_eq_true rfl) rfl rfl ?_
  refine pm_R_lo pm_M50 (pc' := 1) rfl rfl rfl ?_
  refine pm_R_lo pm_M50 (pc' := 2) rfl rfl rfl ?_
  refine pm_R_icmp pm_M50 (t := 46) (pc' := 5) rfl rfl rfl (fun c4 => ?_) (fun c4 => absurd (Int32.not_le.mp c4) (Int32.not_lt.mpr R))
  skip
  refine pm_R_lo pm_M50 (pc' := 47) rfl rfl rfl ?_
  refine pm_R_ifc pm_M50 (t := 59) (pc' := 50) rfl rfl rfl (fun c5 => ?_) (fun c5 => absurd (Int32.not_le.mp c5) (sf_nlt Ba1 sf_k0 (by decide)))
  skip
  refine pm_R_lo pm_M50 (pc' := 60) rfl rfl rfl ?_
  refine pm_R_lo pm_M50 (pc' := 61) rfl rfl rfl ?_
  refine pm_R_icmp pm_M50 (t := 73) (pc' := 64) rfl rfl rfl (fun c6 => ?_) (fun c6 => absurd (Int32.not_le.mp c6) (sf_nlt sf_k468 Ba2 (by decide)))
  skip
  refine pm_R_ret pm_M50 (r := none) rfl rfl ?_
  show pm_R _ 102 7 [.ref 32, .int a1, .int a2, .long a3, pm_no, pm_no] [] _ _
  refine pm_R_lo pm_M102 (pc' := 8) rfl rfl rfl ?_
  refine pm_R_lo pm_M102 (pc' := 10) (ls' := [.ref 32, .int a1, .int a2, .long a3, pm_no, .int a1]) (st' := []) rfl rfl rfl ?_
  have L_41 : ∀ (N : Nat) (h_41 : pm_H) (m_41 : Nat → Int32) (x5_41 : Int32), cl_T ck E m_41 o h_41 → rf_G [32] h h_41 → rf_W [] m m_41 → sf_B 0 468 x5_41 → (468 - x5_41.toInt).toNat = N → pm_R (d + 1) 102 10 [.ref 32, .int a1, .int a2, .long a3, pm_no, .int x5_41] [] h_41 Q := by
    intro N
    induction N using Nat.strongRecOn with
    | ind N ih_41 =>
      intro h_41 m_41 x5_41 T_41 F_41 W_41 Bx5_41 hN_41
      have W44 : rf_W [] m m_41 := (rf_W.refl [] m).trans W_41 (by decide)
      refine pm_R_lo pm_M102 (pc' := 12) rfl rfl rfl ?_
      refine pm_R_lo pm_M102 (pc' := 13) rfl rfl rfl ?_
      refine pm_R_icmp pm_M102 (t := 27) (pc' := 16) rfl rfl rfl (fun c45 => ?_) (fun c45 => ?_)
      · skip
        exact pm_R_ret pm_M102 (r := none) rfl rfl (K m_41 h_41 T_41 F_41 W44)
      · have B46 : sf_B 0 467 x5_41 := sf_ltL (Int32.not_le.mp c45) Bx5_41 Ba2
        have B47 : sf_B 1 468 a2 := sf_ltR (Int32.not_le.mp c45) Bx5_41 Ba2
        refine pm_R_lo pm_M102 (pc' := 17) rfl rfl rfl ?_
        refine pm_R_lo pm_M102 (pc' := 19) rfl rfl rfl ?_
        refine pm_R_lo pm_M102 (pc' := 20) rfl rfl rfl ?_
        obtain ⟨f48, e49⟩ := T_41.C 32 (by decide) (by decide)
        refine cl_R_lst G pm_M102 T_41 (pc' := 21) rfl e49 (by decide) ⟨_, rfl⟩ (sf_in B46 (by decide) (by decide)) rfl (fun h51 T52 F53 e54 => ?_)
        have F55 := F_41.trans F53 (by decide)
        refine sf_R_iinc pm_M102 (pc' := 24) (ls' := fun z => [.ref 32, .int a1, .int a2, .long a3, pm_no, .int z]) rfl B46 rfl (by decide) (by decide) (by decide) (fun _ => rfl) rfl (fun z56 e57 B58 => ?_)
        show pm_R _ 102 24 [.ref 32, .int a1, .int a2, .long a3, pm_no, .int z56] [] _ _
        refine pm_R_br pm_M102 (pc' := 10) rfl rfl ?_
        exact ih_41 _ (sf_up hN_41 e57 B46 (by decide) (by decide)) h51 m_41 z56 T52 F55 W_41 (sf_weak B58 (by decide) (by decide)) rfl
  exact L_41 _ h m a1 T (rf_G.refl [32] h) (rf_W.refl _ _) Ba1 rfl

set_option maxRecDepth 100000 in
set_option maxHeartbeats 4000000 in
/-- java/util/Arrays.fill -/
theorem cl_c71_34 {d : Nat} {ck : cl_K} {E : Nat → pm_E} {m : Nat → Int32} {o : Nat → Option Nat} {h : pm_H} {Q : Option Value → pm_H → Prop} {a1 : Int64} (G : cl_G ck E) (T : cl_T ck E m o h)  (K : ∀ (m' : Nat → Int32) (h' : pm_H), cl_T ck E m' o h' → rf_G [34] h h' → rf_W [] m m' → Q none h') : pm_R (d + 0) 71 0 [.ref 34, .long a1, pm_no, pm_no, pm_no] [] h Q := by
  refine pm_R_op pm_M71 (pc' := 1) (st' := [.int 0]) rfl rfl rfl ?_
  refine pm_R_lo pm_M71 (pc' := 2) (ls' := [.ref 34, .long a1, pm_no, .int 0, pm_no]) (st' := []) rfl rfl rfl ?_
  refine pm_R_lo pm_M71 (pc' := 3) rfl rfl rfl ?_
  obtain ⟨f1, e2⟩ := T.C 34 (by decide) (by decide)
  refine pm_R_alen pm_M71 (pc' := 4) (v := 468) rfl e2 (by decide) (T.lt (by decide)) (by decide) rfl rfl ?_
  refine pm_R_lo pm_M71 (pc' := 6) (ls' := [.ref 34, .long a1, pm_no, .int 0, .int 468]) (st' := []) rfl rfl rfl ?_
  have L_83 : ∀ (N : Nat) (h_83 : pm_H) (m_83 : Nat → Int32) (x3_83 : Int32), cl_T ck E m_83 o h_83 → rf_G [34] h h_83 → rf_W [] m m_83 → sf_B 0 468 x3_83 → (468 - x3_83.toInt).toNat = N → pm_R (d + 0) 71 6 [.ref 34, .long a1, pm_no, .int x3_83, .int 468] [] h_83 Q := by
    intro N
    induction N using Nat.strongRecOn with
    | ind N ih_83 =>
      intro h_83 m_83 x3_83 T_83 F_83 W_83 Bx3_83 hN_83
      have W86 : rf_W [] m m_83 := (rf_W.refl [] m).trans W_83 (by decide)
      refine pm_R_lo pm_M71 (pc' := 7) rfl rfl rfl ?_
      refine pm_R_lo pm_M71 (pc' := 9) rfl rfl rfl ?_
      refine pm_R_icmp pm_M71 (t := 22) (pc' := 12) rfl rfl rfl (fun c87 => ?_) (fun c87 => ?_)
      · have B88 : sf_B 468 468 x3_83 := sf_leR c87 sf_k468 Bx3_83
        exact pm_R_ret pm_M71 (r := none) rfl rfl (K m_83 h_83 T_83 F_83 W86)
      · have B89 : sf_B 0 467 x3_83 := sf_ltL (Int32.not_le.mp c87) Bx3_83 sf_k468
        refine pm_R_lo pm_M71 (pc' := 13) rfl rfl rfl ?_
        refine pm_R_lo pm_M71 (pc' := 14) rfl rfl rfl ?_
        refine pm_R_lo pm_M71 (pc' := 15) rfl rfl rfl ?_
        obtain ⟨f90, e91⟩ := T_83.C 34 (by decide) (by decide)
        refine cl_R_lst G pm_M71 T_83 (pc' := 16) rfl e91 (by decide) ⟨_, rfl⟩ (sf_in B89 (by decide) (by decide)) rfl (fun h93 T94 F95 e96 => ?_)
        have F97 := F_83.trans F95 (by decide)
        refine sf_R_iinc pm_M71 (pc' := 19) (ls' := fun z => [.ref 34, .long a1, pm_no, .int z, .int 468]) rfl B89 rfl (by decide) (by decide) (by decide) (fun _ => rfl) rfl (fun z98 e99 B100 => ?_)
        show pm_R _ 71 19 [.ref 34, .long a1, pm_no, .int z98, .int 468] [] _ _
        refine pm_R_br pm_M71 (pc' := 6) rfl rfl ?_
        exact ih_83 _ (sf_up hN_83 e99 B89 (by decide) (by decide)) h93 m_83 z98 T94 F97 W_83 (sf_weak B100 (by decide) (by decide)) rfl
  exact L_83 _ h m 0 T (rf_G.refl [34] h) (rf_W.refl _ _) (sf_weak sf_k0 (by decide) (by decide)) rfl

set_option maxRecDepth 100000 in
set_option maxHeartbeats 4000000 in
/-- java/util/Arrays.fill -/
theorem cl_c13_36 {d : Nat} {ck : cl_K} {E : Nat → pm_E} {m : Nat → Int32} {o : Nat → Option Nat} {h : pm_H} {Q : Option Value → pm_H → Prop} {a1 : Int32} (G : cl_G ck E) (T : cl_T ck E m o h)  (K : ∀ (m' : Nat → Int32) (h' : pm_H), cl_T ck E m' o h' → rf_G [36] h h' → rf_W [] m m' → Q none h') : pm_R (d + 0) 13 0 [.ref 36, .int a1, pm_no, pm_no] [] h Q := by
  refine pm_R_op pm_M13 (pc' := 1) (st' := [.int 0]) rfl rfl rfl ?_
  refine pm_R_lo pm_M13 (pc' := 2) (ls' := [.ref 36, .int a1, .int 0, pm_no]) (st' := []) rfl rfl rfl ?_
  refine pm_R_lo pm_M13 (pc' := 3) rfl rfl rfl ?_
  obtain ⟨f1, e2⟩ := T.C 36 (by decide) (by decide)
  refine pm_R_alen pm_M13 (pc' := 4) (v := 78) rfl e2 (by decide) (T.lt (by decide)) (by decide) rfl rfl ?_
  refine pm_R_lo pm_M13 (pc' := 5) (ls' := [.ref 36, .int a1, .int 0, .int 78]) (st' := []) rfl rfl rfl ?_
  have L_83 : ∀ (N : Nat) (h_83 : pm_H) (m_83 : Nat → Int32) (x2_83 : Int32), cl_T ck E m_83 o h_83 → rf_G [36] h h_83 → rf_W [] m m_83 → sf_B 0 78 x2_83 → (78 - x2_83.toInt).toNat = N → pm_R (d + 0) 13 5 [.ref 36, .int a1, .int x2_83, .int 78] [] h_83 Q := by
    intro N
    induction N using Nat.strongRecOn with
    | ind N ih_83 =>
      intro h_83 m_83 x2_83 T_83 F_83 W_83 Bx2_83 hN_83
      have W86 : rf_W [] m m_83 := (rf_W.refl [] m).trans W_83 (by decide)
      refine pm_R_lo pm_M13 (pc' := 6) rfl rfl rfl ?_
      refine pm_R_lo pm_M13 (pc' := 7) rfl rfl rfl ?_
      refine pm_R_icmp pm_M13 (t := 20) (pc' := 10) rfl rfl rfl (fun c87 => ?_) (fun c87 => ?_)
      · have B88 : sf_B 78 78 x2_83 := sf_leR c87 sf_k78 Bx2_83
        exact pm_R_ret pm_M13 (r := none) rfl rfl (K m_83 h_83 T_83 F_83 W86)
      · have B89 : sf_B 0 77 x2_83 := sf_ltL (Int32.not_le.mp c87) Bx2_83 sf_k78
        refine pm_R_lo pm_M13 (pc' := 11) rfl rfl rfl ?_
        refine pm_R_lo pm_M13 (pc' := 12) rfl rfl rfl ?_
        refine pm_R_lo pm_M13 (pc' := 13) rfl rfl rfl ?_
        obtain ⟨f90, e91⟩ := T_83.C 36 (by decide) (by decide)
        refine cl_R_ist G pm_M13 T_83 (pc' := 14) rfl e91 (by decide) ⟨_, rfl⟩ (sf_in B89 (by decide) (by decide)) rfl (fun h93 T94 F95 e96 => ?_)
        have F97 := F_83.trans F95 (by decide)
        refine sf_R_iinc pm_M13 (pc' := 17) (ls' := fun z => [.ref 36, .int a1, .int z, .int 78]) rfl B89 rfl (by decide) (by decide) (by decide) (fun _ => rfl) rfl (fun z98 e99 B100 => ?_)
        show pm_R _ 13 17 [.ref 36, .int a1, .int z98, .int 78] [] _ _
        refine pm_R_br pm_M13 (pc' := 5) rfl rfl ?_
        exact ih_83 _ (sf_up hN_83 e99 B89 (by decide) (by decide)) h93 m_83 z98 T94 F97 W_83 (sf_weak B100 (by decide) (by decide)) rfl
  exact L_83 _ h m 0 T (rf_G.refl [36] h) (rf_W.refl _ _) (sf_weak sf_k0 (by decide) (by decide)) rfl

theorem sf_aux4 (v0 v1 v2 v3 v4 : Int) (q0 : v0 = v1 + v2) (q1 : v3 = v0 * 6) (q2 : v4 = v3 + 6) (q3 : 0 ≤ v1) (q4 : v1 ≤ 66) (q5 : 0 ≤ v2) (q6 : v2 ≤ 11) : v3 ≤ v4 := by omega
set_option maxRecDepth 100000 in
set_option maxHeartbeats 4000000 in
/-- SilentTable$MeaningChart.fillSign -/
theorem cl_c101 {d : Nat} {ck : cl_K} {E : Nat → pm_E} {m : Nat → Int32} {o : Nat → Option Nat} {h : pm_H} {Q : Option Value → pm_H → Prop} {a0 : Nat} {a1 : Int32} {a2 : Int32} (G : cl_G ck E) (T : cl_T ck E m o h) (hk0 : ck a0 = 1) (Ba2 : sf_B 0 11 a2) (K : ∀ (m' : Nat → Int32) (h' : pm_H), cl_T ck E m' o h' → rf_G [32] h h' → rf_W [] m m' → Q none h') : pm_R (d + 2) 101 0 [.ref 31, .ref a0, .int a1, .int a2, pm_no, pm_no, pm_no] [] h Q := by
  refine pm_R_lo pm_M101 (pc' := 1) rfl rfl rfl ?_
  refine pm_R_lo pm_M101 (pc' := 2) rfl rfl rfl ?_
  refine pm_R_cs pm_M101 (pc' := 5) (ra := [.int a2, .int a2]) (rest := []) (ls' := [.int a2, .int a2]) rfl rfl (Or.inr rfl) pm_M73 rfl rfl (Nat.le_of_ble_eq_true rfl) rfl rfl ?_
  refine pm_R_lo pm_M73 (pc' := 1) rfl rfl rfl ?_
  refine pm_R_lo pm_M73 (pc' := 2) rfl rfl rfl ?_
  refine pm_R_op pm_M73 (pc' := 3) (st' := [.int 1, .int a2, .int a2]) rfl rfl rfl ?_
  refine sf_R_iadd pm_M73 (pc' := 4) rfl rfl Ba2 sf_k1 (by decide) (by decide) (fun z1 e2 B3 => ?_)
  refine sf_R_imul pm_M73 (pc' := 5) rfl rfl Ba2 B3 (by decide) (by decide) (by decide) (fun z4 e5 B6 => ?_)
  refine pm_R_op pm_M73 (pc' := 6) (st' := [.int 2, .int z4]) rfl rfl rfl ?_
  refine sf_R_idiv pm_M73 (pc' := 7) rfl rfl B6 sf_k2 (by decide) (by decide) (fun z7 e8 B9 => ?_)
  refine pm_R_lo pm_M73 (pc' := 8) rfl rfl rfl ?_
  refine sf_R_iadd pm_M73 (pc' := 9) rfl rfl B9 Ba2 (by decide) (by decide) (fun z10 e11 B12 => ?_)
  refine pm_R_ret pm_M73 (r := some (.int z10)) rfl (pm_ret_i _) ?_
  show pm_R _ 101 5 [.ref 31, .ref a0, .int a1, .int a2, pm_no, pm_no, pm_no] [.int z10] _ _
  refine pm_R_op pm_M101 (pc' := 7) (st' := [.int 6, .int z10]) rfl rfl rfl ?_
  refine sf_R_imul pm_M101 (pc' := 8) rfl rfl B12 sf_k6 (by decide) (by decide) (by decide) (fun z13 e14 B15 => ?_)
  refine pm_R_lo pm_M101 (pc' := 10) (ls' := [.ref 31, .ref a0, .int a1, .int a2, .int z13, pm_no, pm_no]) (st' := []) rfl rfl rfl ?_
  refine pm_R_lo pm_M101 (pc' := 11) rfl rfl rfl ?_
  refine pm_R_get pm_M101 (pc' := 14) (v := .ref 32) rfl rfl T.e31 (by decide) (T.lt (by decide)) rfl rfl ?_
  refine pm_R_lo pm_M101 (pc' := 16) rfl rfl rfl ?_
  refine pm_R_lo pm_M101 (pc' := 18) rfl rfl rfl ?_
  refine pm_R_op pm_M101 (pc' := 20) (st' := [.int 6, .int z13, .int z13, .ref 32]) rfl rfl rfl ?_
  refine sf_R_iadd pm_M101 (pc' := 21) rfl rfl B15 sf_k6 (by decide) (by decide) (fun z16 e17 B18 => ?_)
  refine pm_R_op pm_M101 (pc' := 22) (st' := [.long 0, .int z16, .int z13, .ref 32]) rfl rfl rfl ?_
  refine pm_R_cs pm_M101 (pc' := 25) (ra := [.long 0, .int z16, .int z13, .ref 32]) (rest := []) (ls' := [.ref 32, .int z13, .int z16, .long 0, pm_no, pm_no]) rfl rfl (Or.inl rfl) pm_M102 rfl rfl (Nat.le_of_ble_eq_true rfl) rfl rfl ?_
  refine cl_c102_32 (d := d + 0) G T (sf_weak B15 (by decide) (by decide)) (sf_weak B18 (by decide) (by decide)) (Int32.le_iff_toInt_le.mpr (sf_aux4 _ _ _ _ _ e11 e14 e17 B9.1 B9.2 Ba2.1 Ba2.2)) (fun m21 h22 T23 F24 W25 => ?_)
  have F26 := (rf_G.refl [32] h).trans F24 (by decide)
  have W27 : rf_W [] m m21 := (rf_W.refl [] m).trans W25 (by decide)
  show pm_R _ 101 25 [.ref 31, .ref a0, .int a1, .int a2, .int z13, pm_no, pm_no] [] _ _
  refine pm_R_op pm_M101 (pc' := 26) (st' := [.int 0]) rfl rfl rfl ?_
  refine pm_R_lo pm_M101 (pc' := 28) (ls' := [.ref 31, .ref a0, .int a1, .int a2, .int z13, .int 0, pm_no]) (st' := []) rfl rfl rfl ?_
  have L_1472 : ∀ (N : Nat) (h_1472 : pm_H) (m_1472 : Nat → Int32) (x5_1472 : Int32) (g6_1472 : Value), cl_T ck E m_1472 o h_1472 → rf_G [32] h h_1472 → rf_W [] m21 m_1472 → sf_B 0 10 x5_1472 → g6_1472.category = 1 → (10 - x5_1472.toInt).toNat = N → pm_R (d + 2) 101 28 [.ref 31, .ref a0, .int a1, .int a2, .int z13, .int x5_1472, g6_1472] [] h_1472 Q := by
    intro N
    induction N using Nat.strongRecOn with
    | ind N ih_1472 =>
      intro h_1472 m_1472 x5_1472 g6_1472 T_1472 F_1472 W_1472 Bx5_1472 Cg6_1472 hN_1472
      have W1475 : rf_W [] m m_1472 := W27.trans W_1472 (by decide)
      refine pm_R_lo pm_M101 (pc' := 30) rfl rfl rfl ?_
      refine pm_R_op pm_M101 (pc' := 32) (st' := [.int 10, .int x5_1472]) rfl rfl rfl ?_
      refine pm_R_icmp pm_M101 (t := 92) (pc' := 35) rfl rfl rfl (fun c1476 => ?_) (fun c1476 => ?_)
      · have B1477 : sf_B 10 10 x5_1472 := sf_leR c1476 sf_k10 Bx5_1472
        exact pm_R_ret pm_M101 (r := none) rfl rfl (K m_1472 h_1472 T_1472 F_1472 W1475)
      · have B1478 : sf_B 0 9 x5_1472 := sf_ltL (Int32.not_le.mp c1476) Bx5_1472 sf_k10
        refine pm_R_lo pm_M101 (pc' := 36) rfl rfl rfl ?_
        refine pm_R_lo pm_M101 (pc' := 38) rfl rfl rfl ?_
        refine sf_R_iany pm_M101 (pc' := 39) (st := []) rfl rfl rfl (fun z1482 => ?_)
        refine pm_R_op pm_M101 (pc' := 40) (st' := [.int 1, .int z1482]) rfl rfl rfl ?_
        refine sf_R_iandE pm_M101 (pc' := 41) rfl rfl sf_k1 (by decide) (fun z1483 e1484 B1485 => ?_)
        refine pm_R_ifc pm_M101 (t := 86) (pc' := 44) rfl rfl rfl (fun c1486 => ?_) (fun c1486 => ?_)
        · have B1487 : sf_B 0 0 z1483 := sf_eqL c1486 sf_k0
          refine sf_R_iinc pm_M101 (pc' := 89) (ls' := fun z => [.ref 31, .ref a0, .int a1, .int a2, .int z13, .int z, g6_1472]) rfl B1478 rfl (by decide) (by decide) (by decide) (fun _ => rfl) rfl (fun z1488 e1489 B1490 => ?_)
          show pm_R _ 101 89 [.ref 31, .ref a0, .int a1, .int a2, .int z13, .int z1488, g6_1472] [] _ _
          refine pm_R_br pm_M101 (pc' := 28) rfl rfl ?_
          exact ih_1472 _ (sf_up hN_1472 e1489 B1478 (by decide) (by decide)) h_1472 m_1472 z1488 (g6_1472) T_1472 F_1472 W_1472 (sf_weak B1490 (by decide) (by decide)) Cg6_1472 rfl
        · have B1491 : sf_B 1 1 z1483 := sf_neL0 c1486 sf_k0 B1485
          refine pm_R_op pm_M101 (pc' := 45) (st' := [.int 0]) rfl rfl rfl ?_
          refine pm_R_lo pm_M101 (pc' := 47) (ls' := [.ref 31, .ref a0, .int a1, .int a2, .int z13, .int x5_1472, .int 0]) (st' := []) rfl rfl rfl ?_
          have L_1762 : ∀ (N : Nat) (h_1762 : pm_H) (m_1762 : Nat → Int32) (x6_1762 : Int32), cl_T ck E m_1762 o h_1762 → rf_G [32] h h_1762 → rf_W [] m_1472 m_1762 → sf_B 0 6 x6_1762 → (6 - x6_1762.toInt).toNat = N → pm_R (d + 2) 101 47 [.ref 31, .ref a0, .int a1, .int a2, .int z13, .int x5_1472, .int x6_1762] [] h_1762 Q := by
            intro N
            induction N using Nat.strongRecOn with
            | ind N ih_1762 =>
              intro h_1762 m_1762 x6_1762 T_1762 F_1762 W_1762 Bx6_1762 hN_1762
              have W1765 : rf_W [] m m_1762 := W1475.trans W_1762 (by decide)
              have W1766 : rf_W [] m21 m_1762 := W_1472.trans W_1762 (by decide)
              refine pm_R_lo pm_M101 (pc' := 49) rfl rfl rfl ?_
              refine pm_R_op pm_M101 (pc' := 51) (st' := [.int 6, .int x6_1762]) rfl rfl rfl ?_
              refine pm_R_icmp pm_M101 (t := 86) (pc' := 54) rfl rfl rfl (fun c1767 => ?_) (fun c1767 => ?_)
              · have B1768 : sf_B 6 6 x6_1762 := sf_leR c1767 sf_k6 Bx6_1762
                refine sf_R_iinc pm_M101 (pc' := 89) (ls' := fun z => [.ref 31, .ref a0, .int a1, .int a2, .int z13, .int z, .int x6_1762]) rfl B1478 rfl (by decide) (by decide) (by decide) (fun _ => rfl) rfl (fun z1769 e1770 B1771 => ?_)
                show pm_R _ 101 89 [.ref 31, .ref a0, .int a1, .int a2, .int z13, .int z1769, .int x6_1762] [] _ _
                refine pm_R_br pm_M101 (pc' := 28) rfl rfl ?_
                exact ih_1472 _ (sf_up hN_1472 e1770 B1478 (by decide) (by decide)) h_1762 m_1762 z1769 (.int x6_1762) T_1762 F_1762 W1766 (sf_weak B1771 (by decide) (by decide)) rfl rfl
              · have B1772 : sf_B 0 5 x6_1762 := sf_ltL (Int32.not_le.mp c1767) Bx6_1762 sf_k6
                refine pm_R_lo pm_M101 (pc' := 55) rfl rfl rfl ?_
                refine pm_R_get pm_M101 (pc' := 58) (v := .ref 32) rfl rfl T_1762.e31 (by decide) (T_1762.lt (by decide)) rfl rfl ?_
                refine pm_R_lo pm_M101 (pc' := 60) rfl rfl rfl ?_
                refine pm_R_lo pm_M101 (pc' := 62) rfl rfl rfl ?_
                refine sf_R_iadd pm_M101 (pc' := 63) rfl rfl B15 B1772 (by decide) (by decide) (fun z1773 e1774 B1775 => ?_)
                refine pm_R_op pm_M101 (pc' := 64) (st' := [.int z1773, .ref 32, .int z1773, .ref 32]) rfl rfl rfl ?_
                obtain ⟨f1779, e1780⟩ := T_1762.C 32 (by decide) (by decide)
                obtain ⟨z1776, ez1777⟩ : ∃ y, f1779 (Int32.toNatClampNeg z1773) = y := ⟨_, rfl⟩
                refine pm_R_lald pm_M101 (pc' := 65) (v := z1776) rfl e1780 (by decide) (T_1762.lt (by decide)) (sf_in B1775 (by decide) (by decide)) ez1777 rfl ?_
                refine pm_R_lo pm_M101 (pc' := 66) rfl rfl rfl ?_
                obtain ⟨rc1782, tc1783, rs1784, fv1785, fw1786, fr1787, ft1788, fn1789, h1790, h1791, B1792, eE1793, eE1794, eE1795, eE1796, eE1797, eE1798, b1799, b1800, b1801⟩ := (G.2.1 a0 hk0).2.2.2.2.2
                have kq1802 := G.2.1 a0 hk0
                refine pm_R_get pm_M101 (pc' := 69) (v := .ref (a0 + 1)) rfl rfl (T_1762.im hk0 (by decide) (by decide) eE1793) (G.ge hk0 (by decide)) (T_1762.al hk0 (by decide)) rfl rfl ?_
                refine pm_R_lo pm_M101 (pc' := 71) rfl rfl rfl ?_
                refine pm_R_op pm_M101 (pc' := 73) (st' := [.int 6, .int x5_1472, .ref (a0 + 1), .long z1776, .int z1773, .ref 32]) rfl rfl rfl ?_
                refine sf_R_imul pm_M101 (pc' := 74) rfl rfl B1478 sf_k6 (by decide) (by decide) (by decide) (fun z1803 e1804 B1805 => ?_)
                refine pm_R_lo pm_M101 (pc' := 76) rfl rfl rfl ?_
                refine sf_R_iadd pm_M101 (pc' := 77) rfl rfl B1805 B1772 (by decide) (by decide) (fun z1806 e1807 B1808 => ?_)
                obtain ⟨z1809, ez1810⟩ : ∃ y, fv1785 (Int32.toNatClampNeg z1806) = y := ⟨_, rfl⟩
                refine pm_R_lald pm_M101 (pc' := 78) (v := z1809) rfl (T_1762.im kq1802.1 (by decide) (by decide) eE1794) (G.ge kq1802.1 (by decide)) (T_1762.al kq1802.1 (by decide)) (sf_in B1808 (by decide) (by decide)) ez1810 rfl ?_
                refine sf_R_lany pm_M101 (pc' := 79) (st := [.int z1773, .ref 32]) rfl rfl rfl (fun z1812 => ?_)
                refine cl_R_lst G pm_M101 T_1762 (pc' := 80) rfl e1780 (by decide) ⟨_, rfl⟩ (sf_in B1775 (by decide) (by decide)) rfl (fun h1813 T1814 F1815 e1816 => ?_)
                have F1817 := F_1762.trans F1815 (by decide)
                refine sf_R_iinc pm_M101 (pc' := 83) (ls' := fun z => [.ref 31, .ref a0, .int a1, .int a2, .int z13, .int x5_1472, .int z]) rfl B1772 rfl (by decide) (by decide) (by decide) (fun _ => rfl) rfl (fun z1818 e1819 B1820 => ?_)
                show pm_R _ 101 83 [.ref 31, .ref a0, .int a1, .int a2, .int z13, .int x5_1472, .int z1818] [] _ _
                refine pm_R_br pm_M101 (pc' := 47) rfl rfl ?_
                exact ih_1762 _ (sf_up hN_1762 e1819 B1772 (by decide) (by decide)) h1813 m_1762 z1818 T1814 F1817 W_1762 (sf_weak B1820 (by decide) (by decide)) rfl
          exact L_1762 _ h_1472 m_1472 0 T_1472 F_1472 (rf_W.refl _ _) (sf_weak sf_k0 (by decide) (by decide)) rfl
  exact L_1472 _ h22 m21 0 (pm_no) T23 F26 (rf_W.refl _ _) (sf_weak sf_k0 (by decide) (by decide)) rfl rfl

theorem sf_aux5 (v0 v1 v2 : Int) (q0 : v0 = v1 * 4) (q1 : v2 = v0 + 3) : v2 = 4 * v1 + 3 := by omega
set_option maxRecDepth 100000 in
set_option maxHeartbeats 4000000 in
/-- SilentTable$MeaningChart.fillPart -/
theorem cl_c103 {d : Nat} {ck : cl_K} {E : Nat → pm_E} {m : Nat → Int32} {o : Nat → Option Nat} {h : pm_H} {Q : Option Value → pm_H → Prop} {a0 : Nat} {a1 : Int32} {a2 : Int32} (G : cl_G ck E) (T : cl_T ck E m o h) (hk0 : ck a0 = 1) (Ba1 : sf_B 0 11 a1) (Ba2 : sf_B 0 11 a2) (K : ∀ (m' : Nat → Int32) (h' : pm_H), cl_T ck E m' o h' → rf_G [32] h h' → rf_W [] m m' → Q none h') : pm_R (d + 2) 103 0 [.ref 31, .ref a0, .int a1, .int a2, pm_no, pm_no, pm_no, pm_no, pm_no, pm_no, pm_no, pm_no, pm_no, pm_no] [] h Q := by
  refine pm_R_lo pm_M103 (pc' := 1) rfl rfl rfl ?_
  refine pm_R_lo pm_M103 (pc' := 2) rfl rfl rfl ?_
  refine pm_R_cs pm_M103 (pc' := 5) (ra := [.int a2, .int a1]) (rest := []) (ls' := [.int a1, .int a2]) rfl rfl (Or.inr rfl) pm_M73 rfl rfl (Nat.le_of_ble_eq_true rfl) rfl rfl ?_
  refine pm_R_lo pm_M73 (pc' := 1) rfl rfl rfl ?_
  refine pm_R_lo pm_M73 (pc' := 2) rfl rfl rfl ?_
  refine pm_R_op pm_M73 (pc' := 3) (st' := [.int 1, .int a2, .int a2]) rfl rfl rfl ?_
  refine sf_R_iadd pm_M73 (pc' := 4) rfl rfl Ba2 sf_k1 (by decide) (by decide) (fun z1 e2 B3 => ?_)
  refine sf_R_imul pm_M73 (pc' := 5) rfl rfl Ba2 B3 (by decide) (by decide) (by decide) (fun z4 e5 B6 => ?_)
  refine pm_R_op pm_M73 (pc' := 6) (st' := [.int 2, .int z4]) rfl rfl rfl ?_
  refine sf_R_idiv pm_M73 (pc' := 7) rfl rfl B6 sf_k2 (by decide) (by decide) (fun z7 e8 B9 => ?_)
  refine pm_R_lo pm_M73 (pc' := 8) rfl rfl rfl ?_
  refine sf_R_iadd pm_M73 (pc' := 9) rfl rfl B9 Ba1 (by decide) (by decide) (fun z10 e11 B12 => ?_)
  refine pm_R_ret pm_M73 (r := some (.int z10)) rfl (pm_ret_i _) ?_
  show pm_R _ 103 5 [.ref 31, .ref a0, .int a1, .int a2, pm_no, pm_no, pm_no, pm_no, pm_no, pm_no, pm_no, pm_no, pm_no, pm_no] [.int z10] _ _
  refine pm_R_op pm_M103 (pc' := 7) (st' := [.int 6, .int z10]) rfl rfl rfl ?_
  refine sf_R_imul pm_M103 (pc' := 8) rfl rfl B12 sf_k6 (by decide) (by decide) (by decide) (fun z13 e14 B15 => ?_)
  refine pm_R_lo pm_M103 (pc' := 10) (ls' := [.ref 31, .ref a0, .int a1, .int a2, .int z13, pm_no, pm_no, pm_no, pm_no, pm_no, pm_no, pm_no, pm_no, pm_no]) (st' := []) rfl rfl rfl ?_
  refine pm_R_lo pm_M103 (pc' := 11) rfl rfl rfl ?_
  refine pm_R_get pm_M103 (pc' := 14) (v := .ref 32) rfl rfl T.e31 (by decide) (T.lt (by decide)) rfl rfl ?_
  refine pm_R_lo pm_M103 (pc' := 16) rfl rfl rfl ?_
  refine pm_R_lo pm_M103 (pc' := 18) rfl rfl rfl ?_
  refine pm_R_op pm_M103 (pc' := 20) (st' := [.int 6, .int z13, .int z13, .ref 32]) rfl rfl rfl ?_
  refine sf_R_iadd pm_M103 (pc' := 21) rfl rfl B15 sf_k6 (by decide) (by decide) (fun z16 e17 B18 => ?_)
  refine pm_R_op pm_M103 (pc' := 22) (st' := [.long 0, .int z16, .int z13, .ref 32]) rfl rfl rfl ?_
  refine pm_R_cs pm_M103 (pc' := 25) (ra := [.long 0, .int z16, .int z13, .ref 32]) (rest := []) (ls' := [.ref 32, .int z13, .int z16, .long 0, pm_no, pm_no]) rfl rfl (Or.inl rfl) pm_M102 rfl rfl (Nat.le_of_ble_eq_true rfl) rfl rfl ?_
  refine cl_c102_32 (d := d + 0) G T (sf_weak B15 (by decide) (by decide)) (sf_weak B18 (by decide) (by decide)) (Int32.le_iff_toInt_le.mpr (sf_aux4 _ _ _ _ _ e11 e14 e17 B9.1 B9.2 Ba1.1 Ba1.2)) (fun m21 h22 T23 F24 W25 => ?_)
  have F26 := (rf_G.refl [32] h).trans F24 (by decide)
  have W27 : rf_W [] m m21 := (rf_W.refl [] m).trans W25 (by decide)
  show pm_R _ 103 25 [.ref 31, .ref a0, .int a1, .int a2, .int z13, pm_no, pm_no, pm_no, pm_no, pm_no, pm_no, pm_no, pm_no, pm_no] [] _ _
  refine pm_R_lo pm_M103 (pc' := 26) rfl rfl rfl ?_
  refine pm_R_lo pm_M103 (pc' := 28) (ls' := [.ref 31, .ref a0, .int a1, .int a2, .int z13, .int a1, pm_no, pm_no, pm_no, pm_no, pm_no, pm_no, pm_no, pm_no]) (st' := []) rfl rfl rfl ?_
  have L_2694 : ∀ (N : Nat) (h_2694 : pm_H) (m_2694 : Nat → Int32) (x5_2694 : Int32) (g6_2694 : Value) (g7_2694 : Value) (g8_2694 : Value) (g9_2694 : Value) (g10_2694 : Value) (g11_2694 : Value) (g12_2694 : Value) (g13_2694 : Value), cl_T ck E m_2694 o h_2694 → rf_G [32] h h_2694 → rf_W [] m21 m_2694 → sf_B 0 11 x5_2694 → g6_2694.category = 1 → g7_2694.category = 1 → g8_2694.category = 1 → g10_2694.category = 1 → g12_2694.category = 1 → g13_2694.category = 1 → (11 - x5_2694.toInt).toNat = N → pm_R (d + 2) 103 28 [.ref 31, .ref a0, .int a1, .int a2, .int z13, .int x5_2694, g6_2694, g7_2694, g8_2694, g9_2694, g10_2694, g11_2694, g12_2694, g13_2694] [] h_2694 Q := by
    intro N
    induction N using Nat.strongRecOn with
    | ind N ih_2694 =>
      intro h_2694 m_2694 x5_2694 g6_2694 g7_2694 g8_2694 g9_2694 g10_2694 g11_2694 g12_2694 g13_2694 T_2694 F_2694 W_2694 Bx5_2694 Cg6_2694 Cg7_2694 Cg8_2694 Cg10_2694 Cg12_2694 Cg13_2694 hN_2694
      have W2697 : rf_W [] m m_2694 := W27.trans W_2694 (by decide)
      refine pm_R_lo pm_M103 (pc' := 30) rfl rfl rfl ?_
      refine pm_R_lo pm_M103 (pc' := 31) rfl rfl rfl ?_
      refine pm_R_icmp pm_M103 (t := 194) (pc' := 34) rfl rfl rfl (fun c2698 => ?_) (fun c2698 => ?_)
      · skip
        exact pm_R_ret pm_M103 (r := none) (pm_q103_1 (Nat.le_of_ble_eq_true rfl)) rfl (K m_2694 h_2694 T_2694 F_2694 W2697)
      · have B2699 : sf_B 0 10 x5_2694 := sf_ltL (Int32.not_le.mp c2698) Bx5_2694 Ba2
        have B2700 : sf_B 1 11 a2 := sf_ltR (Int32.not_le.mp c2698) Bx5_2694 Ba2
        refine pm_R_lo pm_M103 (pc' := 35) rfl rfl rfl ?_
        refine pm_R_lo pm_M103 (pc' := 37) rfl rfl rfl ?_
        refine pm_R_cs pm_M103 (pc' := 40) (ra := [.int x5_2694, .int a1]) (rest := []) (ls' := [.int a1, .int x5_2694]) rfl rfl (Or.inr rfl) pm_M73 rfl rfl (Nat.le_of_ble_eq_true rfl) rfl rfl ?_
        refine pm_R_lo pm_M73 (pc' := 1) rfl rfl rfl ?_
        refine pm_R_lo pm_M73 (pc' := 2) rfl rfl rfl ?_
        refine pm_R_op pm_M73 (pc' := 3) (st' := [.int 1, .int x5_2694, .int x5_2694]) rfl rfl rfl ?_
        refine sf_R_iadd pm_M73 (pc' := 4) rfl rfl B2699 sf_k1 (by decide) (by decide) (fun z2701 e2702 B2703 => ?_)
        refine sf_R_imul pm_M73 (pc' := 5) rfl rfl B2699 B2703 (by decide) (by decide) (by decide) (fun z2704 e2705 B2706 => ?_)
        refine pm_R_op pm_M73 (pc' := 6) (st' := [.int 2, .int z2704]) rfl rfl rfl ?_
        refine sf_R_idiv pm_M73 (pc' := 7) rfl rfl B2706 sf_k2 (by decide) (by decide) (fun z2707 e2708 B2709 => ?_)
        refine pm_R_lo pm_M73 (pc' := 8) rfl rfl rfl ?_
        refine sf_R_iadd pm_M73 (pc' := 9) rfl rfl B2709 Ba1 (by decide) (by decide) (fun z2710 e2711 B2712 => ?_)
        refine pm_R_ret pm_M73 (r := some (.int z2710)) rfl (pm_ret_i _) ?_
        show pm_R _ 103 40 [.ref 31, .ref a0, .int a1, .int a2, .int z13, .int x5_2694, g6_2694, g7_2694, g8_2694, g9_2694, g10_2694, g11_2694, g12_2694, g13_2694] [.int z2710] _ _
        refine pm_R_op pm_M103 (pc' := 42) (st' := [.int 6, .int z2710]) rfl rfl rfl ?_
        refine sf_R_imul pm_M103 (pc' := 43) rfl rfl B2712 sf_k6 (by decide) (by decide) (by decide) (fun z2713 e2714 B2715 => ?_)
        refine pm_R_lo pm_M103 (pc' := 45) (ls' := [.ref 31, .ref a0, .int a1, .int a2, .int z13, .int x5_2694, .int z2713, g7_2694, g8_2694, g9_2694, g10_2694, g11_2694, g12_2694, g13_2694]) (st' := []) rfl rfl rfl ?_
        refine pm_R_lo pm_M103 (pc' := 47) rfl rfl rfl ?_
        refine pm_R_op pm_M103 (pc' := 48) (st' := [.int 1, .int x5_2694]) rfl rfl rfl ?_
        refine sf_R_iaddV pm_M103 (pc' := 49) rfl rfl B2699 sf_k1 (by decide) (by decide) e2702 ?_
        refine pm_R_lo pm_M103 (pc' := 50) rfl rfl rfl ?_
        refine pm_R_cs pm_M103 (pc' := 53) (ra := [.int a2, .int z2701]) (rest := []) (ls' := [.int z2701, .int a2]) rfl rfl (Or.inr rfl) pm_M73 rfl rfl (Nat.le_of_ble_eq_true rfl) rfl rfl ?_
        refine pm_R_lo pm_M73 (pc' := 1) rfl rfl rfl ?_
        refine pm_R_lo pm_M73 (pc' := 2) rfl rfl rfl ?_
        refine pm_R_op pm_M73 (pc' := 3) (st' := [.int 1, .int a2, .int a2]) rfl rfl rfl ?_
        refine sf_R_iaddV pm_M73 (pc' := 4) rfl rfl Ba2 sf_k1 (by decide) (by decide) e2 ?_
        refine sf_R_imulV pm_M73 (pc' := 5) rfl rfl Ba2 B3 (by decide) (by decide) (by decide) e5 ?_
        refine pm_R_op pm_M73 (pc' := 6) (st' := [.int 2, .int z4]) rfl rfl rfl ?_
        refine sf_R_idiv pm_M73 (pc' := 7) rfl rfl B6 sf_k2 (by decide) (by decide) (fun z2716 e2717 B2718 => ?_)
        refine pm_R_lo pm_M73 (pc' := 8) rfl rfl rfl ?_
        refine sf_R_iadd pm_M73 (pc' := 9) rfl rfl B2718 B2703 (by decide) (by decide) (fun z2719 e2720 B2721 => ?_)
        refine pm_R_ret pm_M73 (r := some (.int z2719)) rfl (pm_ret_i _) ?_
        show pm_R _ 103 53 [.ref 31, .ref a0, .int a1, .int a2, .int z13, .int x5_2694, .int z2713, g7_2694, g8_2694, g9_2694, g10_2694, g11_2694, g12_2694, g13_2694] [.int z2719] _ _
        refine pm_R_op pm_M103 (pc' := 55) (st' := [.int 6, .int z2719]) rfl rfl rfl ?_
        refine sf_R_imul pm_M103 (pc' := 56) rfl rfl B2721 sf_k6 (by decide) (by decide) (by decide) (fun z2722 e2723 B2724 => ?_)
        refine pm_R_lo pm_M103 (pc' := 58) (ls' := [.ref 31, .ref a0, .int a1, .int a2, .int z13, .int x5_2694, .int z2713, .int z2722, g8_2694, g9_2694, g10_2694, g11_2694, g12_2694, g13_2694]) (st' := []) rfl rfl rfl ?_
        refine pm_R_op pm_M103 (pc' := 59) (st' := [.int 0]) rfl rfl rfl ?_
        refine pm_R_lo pm_M103 (pc' := 61) (ls' := [.ref 31, .ref a0, .int a1, .int a2, .int z13, .int x5_2694, .int z2713, .int z2722, .int 0, g9_2694, g10_2694, g11_2694, g12_2694, g13_2694]) (st' := []) rfl rfl rfl ?_
        have L_4020 : ∀ (N : Nat) (h_4020 : pm_H) (m_4020 : Nat → Int32) (x8_4020 : Int32) (g9_4020 : Value) (g10_4020 : Value) (g11_4020 : Value) (g12_4020 : Value) (g13_4020 : Value), cl_T ck E m_4020 o h_4020 → rf_G [32] h h_4020 → rf_W [] m_2694 m_4020 → sf_B 0 10 x8_4020 → g10_4020.category = 1 → g12_4020.category = 1 → g13_4020.category = 1 → (10 - x8_4020.toInt).toNat = N → pm_R (d + 2) 103 61 [.ref 31, .ref a0, .int a1, .int a2, .int z13, .int x5_2694, .int z2713, .int z2722, .int x8_4020, g9_4020, g10_4020, g11_4020, g12_4020, g13_4020] [] h_4020 Q := by
          intro N
          induction N using Nat.strongRecOn with
          | ind N ih_4020 =>
            intro h_4020 m_4020 x8_4020 g9_4020 g10_4020 g11_4020 g12_4020 g13_4020 T_4020 F_4020 W_4020 Bx8_4020 Cg10_4020 Cg12_4020 Cg13_4020 hN_4020
            have W4023 : rf_W [] m m_4020 := W2697.trans W_4020 (by decide)
            have W4024 : rf_W [] m21 m_4020 := W_2694.trans W_4020 (by decide)
            refine pm_R_lo pm_M103 (pc' := 63) rfl rfl rfl ?_
            refine pm_R_lo pm_M103 (pc' := 64) rfl rfl rfl ?_
            obtain ⟨rc4025, tc4026, rs4027, fv4028, fw4029, fr4030, ft4031, fn4032, h4033, h4034, B4035, eE4036, eE4037, eE4038, eE4039, eE4040, eE4041, b4042, b4043, b4044⟩ := (G.2.1 a0 hk0).2.2.2.2.2
            have kq4045 := G.2.1 a0 hk0
            refine pm_R_get pm_M103 (pc' := 67) (v := .int (Int32.ofNat rc4025)) rfl rfl (T_4020.im hk0 (by decide) (by decide) eE4036) (G.ge hk0 (by decide)) (T_4020.al hk0 (by decide)) rfl rfl ?_
            refine pm_R_icmp pm_M103 (t := 188) (pc' := 70) rfl rfl rfl (fun c4046 => ?_) (fun c4046 => ?_)
            · skip
              refine sf_R_iinc pm_M103 (pc' := 191) (ls' := fun z => [.ref 31, .ref a0, .int a1, .int a2, .int z13, .int z, .int z2713, .int z2722, .int x8_4020, g9_4020, g10_4020, g11_4020, g12_4020, g13_4020]) (pm_q103_1 (Nat.le_of_ble_eq_true rfl)) B2699 rfl (by decide) (by decide) (by decide) (fun _ => rfl) rfl (fun z4047 e4048 B4049 => ?_)
              show pm_R _ 103 191 [.ref 31, .ref a0, .int a1, .int a2, .int z13, .int z4047, .int z2713, .int z2722, .int x8_4020, g9_4020, g10_4020, g11_4020, g12_4020, g13_4020] [] _ _
              refine pm_R_br pm_M103 (pc' := 28) (pm_q103_1 (Nat.le_of_ble_eq_true rfl)) rfl ?_
              exact ih_2694 _ (sf_up hN_2694 e4048 B2699 (by decide) (by decide)) h_4020 m_4020 z4047 (.int z2713) (.int z2722) (.int x8_4020) (g9_4020) (g10_4020) (g11_4020) (g12_4020) (g13_4020) T_4020 F_4020 W4024 (sf_weak B4049 (by decide) (by decide)) rfl rfl rfl Cg10_4020 Cg12_4020 Cg13_4020 rfl
            · have B4050 : sf_B 0 9 x8_4020 := sf_ltL (Int32.not_le.mp c4046) Bx8_4020 (sf_ofB h4033 (by decide))
              have B4051 : sf_B 1 10 (Int32.ofNat rc4025) := sf_ltR (Int32.not_le.mp c4046) Bx8_4020 (sf_ofB h4033 (by decide))
              refine pm_R_lo pm_M103 (pc' := 71) rfl rfl rfl ?_
              refine pm_R_get pm_M103 (pc' := 74) (v := .ref 32) rfl rfl T_4020.e31 (by decide) (T_4020.lt (by decide)) rfl rfl ?_
              refine pm_R_lo pm_M103 (pc' := 76) rfl rfl rfl ?_
              refine pm_R_lo pm_M103 (pc' := 77) rfl rfl rfl ?_
              refine pm_R_get pm_M103 (pc' := 80) (v := .ref (a0 + 3)) rfl rfl (T_4020.im hk0 (by decide) (by decide) eE4036) (G.ge hk0 (by decide)) (T_4020.al hk0 (by decide)) rfl rfl ?_
              refine pm_R_lo pm_M103 (pc' := 82) rfl rfl rfl ?_
              refine pm_R_op pm_M103 (pc' := 83) (st' := [.int 4, .int x8_4020, .ref (a0 + 3), .int z2713, .ref 32]) rfl rfl rfl ?_
              refine sf_R_imul pm_M103 (pc' := 84) rfl rfl B4050 sf_k4 (by decide) (by decide) (by decide) (fun z4052 e4053 B4054 => ?_)
              refine pm_R_op pm_M103 (pc' := 85) (st' := [.int 1, .int z4052, .ref (a0 + 3), .int z2713, .ref 32]) rfl rfl rfl ?_
              refine sf_R_iadd pm_M103 (pc' := 86) rfl rfl B4054 sf_k1 (by decide) (by decide) (fun z4055 e4056 B4057 => ?_)
              have q4061 := cl_in4 (n := rc4025) (Nat.le_trans h4033 (by decide)) (Int32.not_le.mp c4046) (sf_aux3 _ _ _ e4053 e4056) B4050 (by decide) (by decide)
              obtain ⟨z4058, ez4059⟩ : ∃ y, fr4030 (Int32.toNatClampNeg z4055) = y := ⟨_, rfl⟩
              have B4060 : sf_B 0 5 z4058 := ez4059 ▸ q4061.2.2 ▸ (b4042 _ q4061.2.1).2.1
              refine pm_R_iald pm_M103 (pc' := 87) (v := z4058) rfl (T_4020.im kq4045.2.2.1 (by decide) (by decide) eE4039) (T_4020.al kq4045.2.2.1 (by decide)) q4061.1 ez4059 rfl ?_
              refine sf_R_iadd pm_M103 (pc' := 88) rfl rfl B2715 B4060 (by decide) (by decide) (fun z4062 e4063 B4064 => ?_)
              obtain ⟨f4068, e4069⟩ := T_4020.C 32 (by decide) (by decide)
              obtain ⟨z4065, ez4066⟩ : ∃ y, f4068 (Int32.toNatClampNeg z4062) = y := ⟨_, rfl⟩
              refine pm_R_lald pm_M103 (pc' := 89) (v := z4065) rfl e4069 (by decide) (T_4020.lt (by decide)) (sf_in B4064 (by decide) (by decide)) ez4066 rfl ?_
              refine pm_R_lo pm_M103 (pc' := 91) (ls' := [.ref 31, .ref a0, .int a1, .int a2, .int z13, .int x5_2694, .int z2713, .int z2722, .int x8_4020, .long z4065, pm_no, g11_4020, g12_4020, g13_4020]) (st' := []) rfl rfl rfl ?_
              refine pm_R_lo pm_M103 (pc' := 92) rfl rfl rfl ?_
              refine pm_R_get pm_M103 (pc' := 95) (v := .ref 32) rfl rfl T_4020.e31 (by decide) (T_4020.lt (by decide)) rfl rfl ?_
              refine pm_R_lo pm_M103 (pc' := 97) rfl rfl rfl ?_
              refine pm_R_lo pm_M103 (pc' := 98) rfl rfl rfl ?_
              refine pm_R_get pm_M103 (pc' := 101) (v := .ref (a0 + 3)) rfl rfl (T_4020.im hk0 (by decide) (by decide) eE4036) (G.ge hk0 (by decide)) (T_4020.al hk0 (by decide)) rfl rfl ?_
              refine pm_R_lo pm_M103 (pc' := 103) rfl rfl rfl ?_
              refine pm_R_op pm_M103 (pc' := 104) (st' := [.int 4, .int x8_4020, .ref (a0 + 3), .int z2722, .ref 32]) rfl rfl rfl ?_
              refine sf_R_imulV pm_M103 (pc' := 105) (pm_q103_1 (Nat.le_of_ble_eq_true rfl)) rfl B4050 sf_k4 (by decide) (by decide) (by decide) e4053 ?_
              refine pm_R_op pm_M103 (pc' := 106) (st' := [.int 2, .int z4052, .ref (a0 + 3), .int z2722, .ref 32]) (pm_q103_1 (Nat.le_of_ble_eq_true rfl)) rfl rfl ?_
              refine sf_R_iadd pm_M103 (pc' := 107) (pm_q103_1 (Nat.le_of_ble_eq_true rfl)) rfl B4054 sf_k2 (by decide) (by decide) (fun z4071 e4072 B4073 => ?_)
              have q4077 := cl_in4 (n := rc4025) (Nat.le_trans h4033 (by decide)) (Int32.not_le.mp c4046) (sf_aux2 _ _ _ e4053 e4072) B4050 (by decide) (by decide)
              obtain ⟨z4074, ez4075⟩ : ∃ y, fr4030 (Int32.toNatClampNeg z4071) = y := ⟨_, rfl⟩
              have B4076 : sf_B 0 5 z4074 := ez4075 ▸ q4077.2.2 ▸ (b4042 _ q4077.2.1).2.2
              refine pm_R_iald pm_M103 (pc' := 108) (v := z4074) (pm_q103_1 (Nat.le_of_ble_eq_true rfl)) (T_4020.im kq4045.2.2.1 (by decide) (by decide) eE4039) (T_4020.al kq4045.2.2.1 (by decide)) q4077.1 ez4075 rfl ?_
              refine sf_R_iadd pm_M103 (pc' := 109) (pm_q103_1 (Nat.le_of_ble_eq_true rfl)) rfl B2724 B4076 (by decide) (by decide) (fun z4078 e4079 B4080 => ?_)
              obtain ⟨z4081, ez4082⟩ : ∃ y, f4068 (Int32.toNatClampNeg z4078) = y := ⟨_, rfl⟩
              refine pm_R_lald pm_M103 (pc' := 110) (v := z4081) (pm_q103_1 (Nat.le_of_ble_eq_true rfl)) e4069 (by decide) (T_4020.lt (by decide)) (sf_in B4080 (by decide) (by decide)) ez4082 rfl ?_
              refine pm_R_lo pm_M103 (pc' := 112) (ls' := [.ref 31, .ref a0, .int a1, .int a2, .int z13, .int x5_2694, .int z2713, .int z2722, .int x8_4020, .long z4065, pm_no, .long z4081, pm_no, g13_4020]) (st' := []) (pm_q103_1 (Nat.le_of_ble_eq_true rfl)) rfl rfl ?_
              refine pm_R_lo pm_M103 (pc' := 114) (pm_q103_1 (Nat.le_of_ble_eq_true rfl)) rfl rfl ?_
              refine pm_R_lo pm_M103 (pc' := 115) (pm_q103_1 (Nat.le_of_ble_eq_true rfl)) rfl rfl ?_
              refine pm_R_get pm_M103 (pc' := 118) (v := .ref (a0 + 3)) (pm_q103_1 (Nat.le_of_ble_eq_true rfl)) rfl (T_4020.im hk0 (by decide) (by decide) eE4036) (G.ge hk0 (by decide)) (T_4020.al hk0 (by decide)) rfl rfl ?_
              refine pm_R_lo pm_M103 (pc' := 120) (pm_q103_1 (Nat.le_of_ble_eq_true rfl)) rfl rfl ?_
              refine pm_R_op pm_M103 (pc' := 121) (st' := [.int 4, .int x8_4020, .ref (a0 + 3), .int z13]) (pm_q103_1 (Nat.le_of_ble_eq_true rfl)) rfl rfl ?_
              refine sf_R_imulV pm_M103 (pc' := 122) (pm_q103_1 (Nat.le_of_ble_eq_true rfl)) rfl B4050 sf_k4 (by decide) (by decide) (by decide) e4053 ?_
              have q4087 := cl_in4 (n := rc4025) (Nat.le_trans h4033 (by decide)) (Int32.not_le.mp c4046) (sf_aux1 _ _ e4053) B4050 (by decide) (by decide)
              obtain ⟨z4084, ez4085⟩ : ∃ y, fr4030 (Int32.toNatClampNeg z4052) = y := ⟨_, rfl⟩
              have B4086 : sf_B 0 5 z4084 := ez4085 ▸ q4087.2.2 ▸ (b4042 _ q4087.2.1).1
              refine pm_R_iald pm_M103 (pc' := 123) (v := z4084) (pm_q103_1 (Nat.le_of_ble_eq_true rfl)) (T_4020.im kq4045.2.2.1 (by decide) (by decide) eE4039) (T_4020.al kq4045.2.2.1 (by decide)) q4087.1 ez4085 rfl ?_
              refine sf_R_iadd pm_M103 (pc' := 124) (pm_q103_1 (Nat.le_of_ble_eq_true rfl)) rfl B15 B4086 (by decide) (by decide) (fun z4088 e4089 B4090 => ?_)
              refine pm_R_lo pm_M103 (pc' := 126) (ls' := [.ref 31, .ref a0, .int a1, .int a2, .int z13, .int x5_2694, .int z2713, .int z2722, .int x8_4020, .long z4065, pm_no, .long z4081, pm_no, .int z4088]) (st' := []) (pm_q103_1 (Nat.le_of_ble_eq_true rfl)) rfl rfl ?_
              refine pm_R_lo pm_M103 (pc' := 128) (pm_q103_1 (Nat.le_of_ble_eq_true rfl)) rfl rfl ?_
              refine pm_R_op pm_M103 (pc' := 129) (st' := [.long 0, .long z4065]) (pm_q103_1 (Nat.le_of_ble_eq_true rfl)) rfl rfl ?_
              refine sf_R_lcmp pm_M103 (pc' := 130) (pm_q103_1 (Nat.le_of_ble_eq_true rfl)) rfl (fun z4091 e4092 => ?_)
              refine pm_R_ifc pm_M103 (t := 182) (pc' := 133) (pm_q103_1 (Nat.le_of_ble_eq_true rfl)) rfl rfl (fun c4093 => ?_) (fun c4093 => ?_)
              · have B4094 : sf_B 0 0 z4091 := sf_eqL c4093 sf_k0
                have B4095 : lf_B 0 0 z4065 := lf_eqB e4092 B4094 (⟨by decide, by decide⟩ : lf_B 0 0 0)
                refine sf_R_iinc pm_M103 (pc' := 185) (ls' := fun z => [.ref 31, .ref a0, .int a1, .int a2, .int z13, .int x5_2694, .int z2713, .int z2722, .int z, .long z4065, pm_no, .long z4081, pm_no, .int z4088]) (pm_q103_1 (Nat.le_of_ble_eq_true rfl)) B4050 rfl (by decide) (by decide) (by decide) (fun _ => rfl) rfl (fun z4096 e4097 B4098 => ?_)
                show pm_R _ 103 185 [.ref 31, .ref a0, .int a1, .int a2, .int z13, .int x5_2694, .int z2713, .int z2722, .int z4096, .long z4065, pm_no, .long z4081, pm_no, .int z4088] [] _ _
                refine pm_R_br pm_M103 (pc' := 61) (pm_q103_1 (Nat.le_of_ble_eq_true rfl)) rfl ?_
                exact ih_4020 _ (sf_up hN_4020 e4097 B4050 (by decide) (by decide)) h_4020 m_4020 z4096 (.long z4065) (pm_no) (.long z4081) (pm_no) (.int z4088) T_4020 F_4020 W_4020 (sf_weak B4098 (by decide) (by decide)) rfl rfl rfl rfl
              · have k4099 := sf_lneC e4092 c4093
                refine pm_R_lo pm_M103 (pc' := 135) (pm_q103_1 (Nat.le_of_ble_eq_true rfl)) rfl rfl ?_
                refine pm_R_op pm_M103 (pc' := 136) (st' := [.long 0, .long z4081]) (pm_q103_1 (Nat.le_of_ble_eq_true rfl)) rfl rfl ?_
                refine sf_R_lcmp pm_M103 (pc' := 137) (pm_q103_1 (Nat.le_of_ble_eq_true rfl)) rfl (fun z4100 e4101 => ?_)
                refine pm_R_ifc pm_M103 (t := 182) (pc' := 140) (pm_q103_1 (Nat.le_of_ble_eq_true rfl)) rfl rfl (fun c4102 => ?_) (fun c4102 => ?_)
                · have B4103 : sf_B 0 0 z4100 := sf_eqL c4102 sf_k0
                  have B4104 : lf_B 0 0 z4081 := lf_eqB e4101 B4103 (⟨by decide, by decide⟩ : lf_B 0 0 0)
                  refine sf_R_iinc pm_M103 (pc' := 185) (ls' := fun z => [.ref 31, .ref a0, .int a1, .int a2, .int z13, .int x5_2694, .int z2713, .int z2722, .int z, .long z4065, pm_no, .long z4081, pm_no, .int z4088]) (pm_q103_1 (Nat.le_of_ble_eq_true rfl)) B4050 rfl (by decide) (by decide) (by decide) (fun _ => rfl) rfl (fun z4105 e4106 B4107 => ?_)
                  show pm_R _ 103 185 [.ref 31, .ref a0, .int a1, .int a2, .int z13, .int x5_2694, .int z2713, .int z2722, .int z4105, .long z4065, pm_no, .long z4081, pm_no, .int z4088] [] _ _
                  refine pm_R_br pm_M103 (pc' := 61) (pm_q103_1 (Nat.le_of_ble_eq_true rfl)) rfl ?_
                  exact ih_4020 _ (sf_up hN_4020 e4106 B4050 (by decide) (by decide)) h_4020 m_4020 z4105 (.long z4065) (pm_no) (.long z4081) (pm_no) (.int z4088) T_4020 F_4020 W_4020 (sf_weak B4107 (by decide) (by decide)) rfl rfl rfl rfl
                · have k4108 := sf_lneC e4101 c4102
                  refine pm_R_lo pm_M103 (pc' := 141) (pm_q103_1 (Nat.le_of_ble_eq_true rfl)) rfl rfl ?_
                  refine pm_R_get pm_M103 (pc' := 144) (v := .ref 32) (pm_q103_1 (Nat.le_of_ble_eq_true rfl)) rfl T_4020.e31 (by decide) (T_4020.lt (by decide)) rfl rfl ?_
                  refine pm_R_lo pm_M103 (pc' := 146) (pm_q103_1 (Nat.le_of_ble_eq_true rfl)) rfl rfl ?_
                  obtain ⟨z4109, ez4110⟩ : ∃ y, f4068 (Int32.toNatClampNeg z4088) = y := ⟨_, rfl⟩
                  refine pm_R_lald pm_M103 (pc' := 147) (v := z4109) (pm_q103_1 (Nat.le_of_ble_eq_true rfl)) e4069 (by decide) (T_4020.lt (by decide)) (sf_in B4090 (by decide) (by decide)) ez4110 rfl ?_
                  refine pm_R_ldc2 pm_M103 (pc' := 150) (pm_q103_1 (Nat.le_of_ble_eq_true rfl)) rfl rfl ?_
                  refine sf_R_lcmp pm_M103 (pc' := 151) (pm_q103_1 (Nat.le_of_ble_eq_true rfl)) rfl (fun z4112 e4113 => ?_)
                  refine pm_R_ifc pm_M103 (t := 182) (pc' := 154) (pm_q103_1 (Nat.le_of_ble_eq_true rfl)) rfl rfl (fun c4114 => ?_) (fun c4114 => ?_)
                  · have B4115 : sf_B 0 0 z4112 := sf_eqL c4114 sf_k0
                    have B4116 : lf_B 1125899906842623 1125899906842623 z4109 := lf_eqB e4113 B4115 (⟨by decide, by decide⟩ : lf_B 1125899906842623 1125899906842623 1125899906842623)
                    refine sf_R_iinc pm_M103 (pc' := 185) (ls' := fun z => [.ref 31, .ref a0, .int a1, .int a2, .int z13, .int x5_2694, .int z2713, .int z2722, .int z, .long z4065, pm_no, .long z4081, pm_no, .int z4088]) (pm_q103_1 (Nat.le_of_ble_eq_true rfl)) B4050 rfl (by decide) (by decide) (by decide) (fun _ => rfl) rfl (fun z4117 e4118 B4119 => ?_)
                    show pm_R _ 103 185 [.ref 31, .ref a0, .int a1, .int a2, .int z13, .int x5_2694, .int z2713, .int z2722, .int z4117, .long z4065, pm_no, .long z4081, pm_no, .int z4088] [] _ _
                    refine pm_R_br pm_M103 (pc' := 61) (pm_q103_1 (Nat.le_of_ble_eq_true rfl)) rfl ?_
                    exact ih_4020 _ (sf_up hN_4020 e4118 B4050 (by decide) (by decide)) h_4020 m_4020 z4117 (.long z4065) (pm_no) (.long z4081) (pm_no) (.int z4088) T_4020 F_4020 W_4020 (sf_weak B4119 (by decide) (by decide)) rfl rfl rfl rfl
                  · have k4120 := sf_lneC e4113 c4114
                    refine pm_R_lo pm_M103 (pc' := 155) (pm_q103_1 (Nat.le_of_ble_eq_true rfl)) rfl rfl ?_
                    refine pm_R_get pm_M103 (pc' := 158) (v := .ref 32) (pm_q103_1 (Nat.le_of_ble_eq_true rfl)) rfl T_4020.e31 (by decide) (T_4020.lt (by decide)) rfl rfl ?_
                    refine pm_R_lo pm_M103 (pc' := 160) (pm_q103_1 (Nat.le_of_ble_eq_true rfl)) rfl rfl ?_
                    refine pm_R_op pm_M103 (pc' := 161) (st' := [.int z4088, .ref 32, .int z4088, .ref 32]) (pm_q103_1 (Nat.le_of_ble_eq_true rfl)) rfl rfl ?_
                    refine pm_R_lald pm_M103 (pc' := 162) (v := z4109) (pm_q103_1 (Nat.le_of_ble_eq_true rfl)) e4069 (by decide) (T_4020.lt (by decide)) (sf_in B4090 (by decide) (by decide)) ez4110 rfl ?_
                    refine pm_R_lo pm_M103 (pc' := 163) (pm_q103_1 (Nat.le_of_ble_eq_true rfl)) rfl rfl ?_
                    refine pm_R_get pm_M103 (pc' := 166) (v := .ref (a0 + 3)) (pm_q103_1 (Nat.le_of_ble_eq_true rfl)) rfl (T_4020.im hk0 (by decide) (by decide) eE4036) (G.ge hk0 (by decide)) (T_4020.al hk0 (by decide)) rfl rfl ?_
                    refine pm_R_lo pm_M103 (pc' := 168) (pm_q103_1 (Nat.le_of_ble_eq_true rfl)) rfl rfl ?_
                    refine pm_R_op pm_M103 (pc' := 169) (st' := [.int 4, .int x8_4020, .ref (a0 + 3), .long z4109, .int z4088, .ref 32]) (pm_q103_1 (Nat.le_of_ble_eq_true rfl)) rfl rfl ?_
                    refine sf_R_imulV pm_M103 (pc' := 170) (pm_q103_1 (Nat.le_of_ble_eq_true rfl)) rfl B4050 sf_k4 (by decide) (by decide) (by decide) e4053 ?_
                    refine pm_R_op pm_M103 (pc' := 171) (st' := [.int 3, .int z4052, .ref (a0 + 3), .long z4109, .int z4088, .ref 32]) (pm_q103_1 (Nat.le_of_ble_eq_true rfl)) rfl rfl ?_
                    refine sf_R_iadd pm_M103 (pc' := 172) (pm_q103_1 (Nat.le_of_ble_eq_true rfl)) rfl B4054 sf_k3 (by decide) (by decide) (fun z4124 e4125 B4126 => ?_)
                    have q4130 := cl_in4 (n := rc4025) (Nat.le_trans h4033 (by decide)) (Int32.not_le.mp c4046) (sf_aux5 _ _ _ e4053 e4125) B4050 (by decide) (by decide)
                    obtain ⟨z4127, ez4128⟩ : ∃ y, fr4030 (Int32.toNatClampNeg z4124) = y := ⟨_, rfl⟩
                    refine pm_R_iald pm_M103 (pc' := 173) (v := z4127) (pm_q103_1 (Nat.le_of_ble_eq_true rfl)) (T_4020.im kq4045.2.2.1 (by decide) (by decide) eE4039) (T_4020.al kq4045.2.2.1 (by decide)) q4130.1 ez4128 rfl ?_
                    refine pm_R_lo pm_M103 (pc' := 175) (pm_q103_1 (Nat.le_of_ble_eq_true rfl)) rfl rfl ?_
                    refine pm_R_lo pm_M103 (pc' := 177) (pm_q103_1 (Nat.le_of_ble_eq_true rfl)) rfl rfl ?_
                    refine pm_R_cs pm_M103 (pc' := 180) (ra := [.long z4081, .long z4065, .int z4127]) (rest := [.long z4109, .int z4088, .ref 32]) (ls' := [.int z4127, .long z4065, pm_no, .long z4081, pm_no]) (pm_q103_1 (Nat.le_of_ble_eq_true rfl)) rfl (Or.inr rfl) pm_M104 rfl rfl (Nat.le_of_ble_eq_true rfl) rfl rfl ?_
                    refine pm_R_lo pm_M104 (pc' := 1) rfl rfl rfl ?_
                    by_cases c4131 : z4127 < 0
                    · refine pm_R_tswD pm_M104 (pc' := 57) rfl (Or.inl (Int32.lt_iff_toInt_lt.mp c4131)) rfl ?_
                      have B4132 : sf_B (-2147483648) (-1) z4127 := sf_ltL c4131 (sf_any z4127) sf_k0
                      refine pm_R_lo pm_M104 (pc' := 58) rfl rfl rfl ?_
                      refine pm_R_cs pm_M104 (pc' := 61) (ra := [.long z4081]) (rest := []) (ls' := [.long z4081, pm_no, pm_no, pm_no, pm_no]) rfl rfl (Or.inl rfl) pm_M106 rfl rfl (Nat.le_of_ble_eq_true rfl) rfl rfl ?_
                      refine cl_c106 (d := d + 0)  (fun r4133 => ?_)
                      show pm_R _ 104 61 [.int z4127, .long z4065, pm_no, .long z4081, pm_no] [.long r4133] _ _
                      refine pm_R_ret pm_M104 (r := some (.long r4133)) rfl rfl ?_
                      show pm_R _ 103 180 [.ref 31, .ref a0, .int a1, .int a2, .int z13, .int x5_2694, .int z2713, .int z2722, .int x8_4020, .long z4065, pm_no, .long z4081, pm_no, .int z4088] [.long r4133, .long z4109, .int z4088, .ref 32] _ _
                      refine sf_R_lany pm_M103 (pc' := 181) (st := [.int z4088, .ref 32]) (pm_q103_1 (Nat.le_of_ble_eq_true rfl)) rfl rfl (fun z4140 => ?_)
                      refine cl_R_lst G pm_M103 T_4020 (pc' := 182) (pm_q103_1 (Nat.le_of_ble_eq_true rfl)) e4069 (by decide) ⟨_, rfl⟩ (sf_in B4090 (by decide) (by decide)) rfl (fun h4141 T4142 F4143 e4144 => ?_)
                      have F4145 := F_4020.trans F4143 (by decide)
                      refine sf_R_iinc pm_M103 (pc' := 185) (ls' := fun z => [.ref 31, .ref a0, .int a1, .int a2, .int z13, .int x5_2694, .int z2713, .int z2722, .int z, .long z4065, pm_no, .long z4081, pm_no, .int z4088]) (pm_q103_1 (Nat.le_of_ble_eq_true rfl)) B4050 rfl (by decide) (by decide) (by decide) (fun _ => rfl) rfl (fun z4146 e4147 B4148 => ?_)
                      show pm_R _ 103 185 [.ref 31, .ref a0, .int a1, .int a2, .int z13, .int x5_2694, .int z2713, .int z2722, .int z4146, .long z4065, pm_no, .long z4081, pm_no, .int z4088] [] _ _
                      refine pm_R_br pm_M103 (pc' := 61) (pm_q103_1 (Nat.le_of_ble_eq_true rfl)) rfl ?_
                      exact ih_4020 _ (sf_up hN_4020 e4147 B4050 (by decide) (by decide)) h4141 m_4020 z4146 (.long z4065) (pm_no) (.long z4081) (pm_no) (.int z4088) T4142 F4145 W_4020 (sf_weak B4148 (by decide) (by decide)) rfl rfl rfl rfl
                    have B4149 : sf_B 0 2147483647 z4127 := sf_leR (Int32.not_lt.mp c4131) sf_k0 (sf_any z4127)
                    by_cases c4150 : 3 < z4127
                    · refine pm_R_tswD pm_M104 (pc' := 57) rfl (Or.inr (Int32.lt_iff_toInt_lt.mp c4150)) rfl ?_
                      have B4151 : sf_B 4 2147483647 z4127 := sf_ltR c4150 sf_k3 (sf_any z4127)
                      refine pm_R_lo pm_M104 (pc' := 58) rfl rfl rfl ?_
                      refine pm_R_cs pm_M104 (pc' := 61) (ra := [.long z4081]) (rest := []) (ls' := [.long z4081, pm_no, pm_no, pm_no, pm_no]) rfl rfl (Or.inl rfl) pm_M106 rfl rfl (Nat.le_of_ble_eq_true rfl) rfl rfl ?_
                      refine cl_c106 (d := d + 0)  (fun r4152 => ?_)
                      show pm_R _ 104 61 [.int z4127, .long z4065, pm_no, .long z4081, pm_no] [.long r4152] _ _
                      refine pm_R_ret pm_M104 (r := some (.long r4152)) rfl rfl ?_
                      show pm_R _ 103 180 [.ref 31, .ref a0, .int a1, .int a2, .int z13, .int x5_2694, .int z2713, .int z2722, .int x8_4020, .long z4065, pm_no, .long z4081, pm_no, .int z4088] [.long r4152, .long z4109, .int z4088, .ref 32] _ _
                      refine sf_R_lany pm_M103 (pc' := 181) (st := [.int z4088, .ref 32]) (pm_q103_1 (Nat.le_of_ble_eq_true rfl)) rfl rfl (fun z4159 => ?_)
                      refine cl_R_lst G pm_M103 T_4020 (pc' := 182) (pm_q103_1 (Nat.le_of_ble_eq_true rfl)) e4069 (by decide) ⟨_, rfl⟩ (sf_in B4090 (by decide) (by decide)) rfl (fun h4160 T4161 F4162 e4163 => ?_)
                      have F4164 := F_4020.trans F4162 (by decide)
                      refine sf_R_iinc pm_M103 (pc' := 185) (ls' := fun z => [.ref 31, .ref a0, .int a1, .int a2, .int z13, .int x5_2694, .int z2713, .int z2722, .int z, .long z4065, pm_no, .long z4081, pm_no, .int z4088]) (pm_q103_1 (Nat.le_of_ble_eq_true rfl)) B4050 rfl (by decide) (by decide) (by decide) (fun _ => rfl) rfl (fun z4165 e4166 B4167 => ?_)
                      show pm_R _ 103 185 [.ref 31, .ref a0, .int a1, .int a2, .int z13, .int x5_2694, .int z2713, .int z2722, .int z4165, .long z4065, pm_no, .long z4081, pm_no, .int z4088] [] _ _
                      refine pm_R_br pm_M103 (pc' := 61) (pm_q103_1 (Nat.le_of_ble_eq_true rfl)) rfl ?_
                      exact ih_4020 _ (sf_up hN_4020 e4166 B4050 (by decide) (by decide)) h4160 m_4020 z4165 (.long z4065) (pm_no) (.long z4081) (pm_no) (.int z4088) T4161 F4164 W_4020 (sf_weak B4167 (by decide) (by decide)) rfl rfl rfl rfl
                    have B4168 : sf_B (-2147483648) 3 z4127 := sf_leL (Int32.not_lt.mp c4150) (sf_any z4127) sf_k3
                    by_cases c4169 : z4127 < 0
                    · refine pm_R_tswD pm_M104 (pc' := 57) rfl (Or.inl (Int32.lt_iff_toInt_lt.mp c4169)) rfl ?_
                      have B4170 : sf_B (-2147483648) (-1) z4127 := sf_ltL c4169 B4168 sf_k0
                      refine pm_R_lo pm_M104 (pc' := 58) rfl rfl rfl ?_
                      refine pm_R_cs pm_M104 (pc' := 61) (ra := [.long z4081]) (rest := []) (ls' := [.long z4081, pm_no, pm_no, pm_no, pm_no]) rfl rfl (Or.inl rfl) pm_M106 rfl rfl (Nat.le_of_ble_eq_true rfl) rfl rfl ?_
                      refine cl_c106 (d := d + 0)  (fun r4171 => ?_)
                      show pm_R _ 104 61 [.int z4127, .long z4065, pm_no, .long z4081, pm_no] [.long r4171] _ _
                      refine pm_R_ret pm_M104 (r := some (.long r4171)) rfl rfl ?_
                      show pm_R _ 103 180 [.ref 31, .ref a0, .int a1, .int a2, .int z13, .int x5_2694, .int z2713, .int z2722, .int x8_4020, .long z4065, pm_no, .long z4081, pm_no, .int z4088] [.long r4171, .long z4109, .int z4088, .ref 32] _ _
                      refine sf_R_lany pm_M103 (pc' := 181) (st := [.int z4088, .ref 32]) (pm_q103_1 (Nat.le_of_ble_eq_true rfl)) rfl rfl (fun z4178 => ?_)
                      refine cl_R_lst G pm_M103 T_4020 (pc' := 182) (pm_q103_1 (Nat.le_of_ble_eq_true rfl)) e4069 (by decide) ⟨_, rfl⟩ (sf_in B4090 (by decide) (by decide)) rfl (fun h4179 T4180 F4181 e4182 => ?_)
                      have F4183 := F_4020.trans F4181 (by decide)
                      refine sf_R_iinc pm_M103 (pc' := 185) (ls' := fun z => [.ref 31, .ref a0, .int a1, .int a2, .int z13, .int x5_2694, .int z2713, .int z2722, .int z, .long z4065, pm_no, .long z4081, pm_no, .int z4088]) (pm_q103_1 (Nat.le_of_ble_eq_true rfl)) B4050 rfl (by decide) (by decide) (by decide) (fun _ => rfl) rfl (fun z4184 e4185 B4186 => ?_)
                      show pm_R _ 103 185 [.ref 31, .ref a0, .int a1, .int a2, .int z13, .int x5_2694, .int z2713, .int z2722, .int z4184, .long z4065, pm_no, .long z4081, pm_no, .int z4088] [] _ _
                      refine pm_R_br pm_M103 (pc' := 61) (pm_q103_1 (Nat.le_of_ble_eq_true rfl)) rfl ?_
                      exact ih_4020 _ (sf_up hN_4020 e4185 B4050 (by decide) (by decide)) h4179 m_4020 z4184 (.long z4065) (pm_no) (.long z4081) (pm_no) (.int z4088) T4180 F4183 W_4020 (sf_weak B4186 (by decide) (by decide)) rfl rfl rfl rfl
                    have B4187 : sf_B 0 3 z4127 := sf_leR (Int32.not_lt.mp c4169) sf_k0 B4168
                    by_cases c4188 : 3 < z4127
                    · refine pm_R_tswD pm_M104 (pc' := 57) rfl (Or.inr (Int32.lt_iff_toInt_lt.mp c4188)) rfl ?_
                      have B4189 : sf_B 4 3 z4127 := sf_ltR c4188 sf_k3 B4168
                      refine pm_R_lo pm_M104 (pc' := 58) rfl rfl rfl ?_
                      refine pm_R_cs pm_M104 (pc' := 61) (ra := [.long z4081]) (rest := []) (ls' := [.long z4081, pm_no, pm_no, pm_no, pm_no]) rfl rfl (Or.inl rfl) pm_M106 rfl rfl (Nat.le_of_ble_eq_true rfl) rfl rfl ?_
                      refine cl_c106 (d := d + 0)  (fun r4190 => ?_)
                      show pm_R _ 104 61 [.int z4127, .long z4065, pm_no, .long z4081, pm_no] [.long r4190] _ _
                      refine pm_R_ret pm_M104 (r := some (.long r4190)) rfl rfl ?_
                      show pm_R _ 103 180 [.ref 31, .ref a0, .int a1, .int a2, .int z13, .int x5_2694, .int z2713, .int z2722, .int x8_4020, .long z4065, pm_no, .long z4081, pm_no, .int z4088] [.long r4190, .long z4109, .int z4088, .ref 32] _ _
                      refine sf_R_lany pm_M103 (pc' := 181) (st := [.int z4088, .ref 32]) (pm_q103_1 (Nat.le_of_ble_eq_true rfl)) rfl rfl (fun z4197 => ?_)
                      refine cl_R_lst G pm_M103 T_4020 (pc' := 182) (pm_q103_1 (Nat.le_of_ble_eq_true rfl)) e4069 (by decide) ⟨_, rfl⟩ (sf_in B4090 (by decide) (by decide)) rfl (fun h4198 T4199 F4200 e4201 => ?_)
                      have F4202 := F_4020.trans F4200 (by decide)
                      refine sf_R_iinc pm_M103 (pc' := 185) (ls' := fun z => [.ref 31, .ref a0, .int a1, .int a2, .int z13, .int x5_2694, .int z2713, .int z2722, .int z, .long z4065, pm_no, .long z4081, pm_no, .int z4088]) (pm_q103_1 (Nat.le_of_ble_eq_true rfl)) B4050 rfl (by decide) (by decide) (by decide) (fun _ => rfl) rfl (fun z4203 e4204 B4205 => ?_)
                      show pm_R _ 103 185 [.ref 31, .ref a0, .int a1, .int a2, .int z13, .int x5_2694, .int z2713, .int z2722, .int z4203, .long z4065, pm_no, .long z4081, pm_no, .int z4088] [] _ _
                      refine pm_R_br pm_M103 (pc' := 61) (pm_q103_1 (Nat.le_of_ble_eq_true rfl)) rfl ?_
                      exact ih_4020 _ (sf_up hN_4020 e4204 B4050 (by decide) (by decide)) h4198 m_4020 z4203 (.long z4065) (pm_no) (.long z4081) (pm_no) (.int z4088) T4199 F4202 W_4020 (sf_weak B4205 (by decide) (by decide)) rfl rfl rfl rfl
                    skip
                    by_cases c4206 : z4127 = 0
                    · rw [c4206]
                      refine pm_R_br pm_M104 (pc' := 32) (st' := []) rfl rfl ?_
                      refine pm_R_lo pm_M104 (pc' := 33) rfl rfl rfl ?_
                      refine pm_R_ret pm_M104 (r := some (.long z4065)) rfl rfl ?_
                      show pm_R _ 103 180 [.ref 31, .ref a0, .int a1, .int a2, .int z13, .int x5_2694, .int z2713, .int z2722, .int x8_4020, .long z4065, pm_no, .long z4081, pm_no, .int z4088] [.long z4065, .long z4109, .int z4088, .ref 32] _ _
                      refine sf_R_lany pm_M103 (pc' := 181) (st := [.int z4088, .ref 32]) (pm_q103_1 (Nat.le_of_ble_eq_true rfl)) rfl rfl (fun z4207 => ?_)
                      refine cl_R_lst G pm_M103 T_4020 (pc' := 182) (pm_q103_1 (Nat.le_of_ble_eq_true rfl)) e4069 (by decide) ⟨_, rfl⟩ (sf_in B4090 (by decide) (by decide)) rfl (fun h4208 T4209 F4210 e4211 => ?_)
                      have F4212 := F_4020.trans F4210 (by decide)
                      refine sf_R_iinc pm_M103 (pc' := 185) (ls' := fun z => [.ref 31, .ref a0, .int a1, .int a2, .int z13, .int x5_2694, .int z2713, .int z2722, .int z, .long z4065, pm_no, .long z4081, pm_no, .int z4088]) (pm_q103_1 (Nat.le_of_ble_eq_true rfl)) B4050 rfl (by decide) (by decide) (by decide) (fun _ => rfl) rfl (fun z4213 e4214 B4215 => ?_)
                      show pm_R _ 103 185 [.ref 31, .ref a0, .int a1, .int a2, .int z13, .int x5_2694, .int z2713, .int z2722, .int z4213, .long z4065, pm_no, .long z4081, pm_no, .int z4088] [] _ _
                      refine pm_R_br pm_M103 (pc' := 61) (pm_q103_1 (Nat.le_of_ble_eq_true rfl)) rfl ?_
                      exact ih_4020 _ (sf_up hN_4020 e4214 B4050 (by decide) (by decide)) h4208 m_4020 z4213 (.long z4065) (pm_no) (.long z4081) (pm_no) (.int z4088) T4209 F4212 W_4020 (sf_weak B4215 (by decide) (by decide)) rfl rfl rfl rfl
                    have B4216 : sf_B 1 3 z4127 := sf_neL0 c4206 sf_k0 B4187
                    by_cases c4217 : z4127 = 1
                    · rw [c4217]
                      refine pm_R_br pm_M104 (pc' := 34) (st' := []) rfl rfl ?_
                      refine pm_R_lo pm_M104 (pc' := 35) rfl rfl rfl ?_
                      refine pm_R_ret pm_M104 (r := some (.long z4081)) rfl rfl ?_
                      show pm_R _ 103 180 [.ref 31, .ref a0, .int a1, .int a2, .int z13, .int x5_2694, .int z2713, .int z2722, .int x8_4020, .long z4065, pm_no, .long z4081, pm_no, .int z4088] [.long z4081, .long z4109, .int z4088, .ref 32] _ _
                      refine sf_R_lany pm_M103 (pc' := 181) (st := [.int z4088, .ref 32]) (pm_q103_1 (Nat.le_of_ble_eq_true rfl)) rfl rfl (fun z4218 => ?_)
                      refine cl_R_lst G pm_M103 T_4020 (pc' := 182) (pm_q103_1 (Nat.le_of_ble_eq_true rfl)) e4069 (by decide) ⟨_, rfl⟩ (sf_in B4090 (by decide) (by decide)) rfl (fun h4219 T4220 F4221 e4222 => ?_)
                      have F4223 := F_4020.trans F4221 (by decide)
                      refine sf_R_iinc pm_M103 (pc' := 185) (ls' := fun z => [.ref 31, .ref a0, .int a1, .int a2, .int z13, .int x5_2694, .int z2713, .int z2722, .int z, .long z4065, pm_no, .long z4081, pm_no, .int z4088]) (pm_q103_1 (Nat.le_of_ble_eq_true rfl)) B4050 rfl (by decide) (by decide) (by decide) (fun _ => rfl) rfl (fun z4224 e4225 B4226 => ?_)
                      show pm_R _ 103 185 [.ref 31, .ref a0, .int a1, .int a2, .int z13, .int x5_2694, .int z2713, .int z2722, .int z4224, .long z4065, pm_no, .long z4081, pm_no, .int z4088] [] _ _
                      refine pm_R_br pm_M103 (pc' := 61) (pm_q103_1 (Nat.le_of_ble_eq_true rfl)) rfl ?_
                      exact ih_4020 _ (sf_up hN_4020 e4225 B4050 (by decide) (by decide)) h4219 m_4020 z4224 (.long z4065) (pm_no) (.long z4081) (pm_no) (.int z4088) T4220 F4223 W_4020 (sf_weak B4226 (by decide) (by decide)) rfl rfl rfl rfl
                    have B4227 : sf_B 2 3 z4127 := sf_neL0 c4217 sf_k1 B4216
                    by_cases c4228 : z4127 = 2
                    · rw [c4228]
                      refine pm_R_br pm_M104 (pc' := 36) (st' := []) rfl rfl ?_
                      refine pm_R_lo pm_M104 (pc' := 37) rfl rfl rfl ?_
                      refine pm_R_lo pm_M104 (pc' := 38) rfl rfl rfl ?_
                      refine pm_R_cs pm_M104 (pc' := 41) (ra := [.long z4081, .long z4065]) (rest := []) (ls' := [.long z4065, pm_no, .long z4081, pm_no, pm_no, pm_no, pm_no]) rfl rfl (Or.inl rfl) pm_M105 rfl rfl (Nat.le_of_ble_eq_true rfl) rfl rfl ?_
                      refine cl_c105 (d := d + 0)  (fun r4229 => ?_)
                      show pm_R _ 104 41 [.int 2, .long z4065, pm_no, .long z4081, pm_no] [.long r4229] _ _
                      refine pm_R_ret pm_M104 (r := some (.long r4229)) rfl rfl ?_
                      show pm_R _ 103 180 [.ref 31, .ref a0, .int a1, .int a2, .int z13, .int x5_2694, .int z2713, .int z2722, .int x8_4020, .long z4065, pm_no, .long z4081, pm_no, .int z4088] [.long r4229, .long z4109, .int z4088, .ref 32] _ _
                      refine sf_R_lany pm_M103 (pc' := 181) (st := [.int z4088, .ref 32]) (pm_q103_1 (Nat.le_of_ble_eq_true rfl)) rfl rfl (fun z4236 => ?_)
                      refine cl_R_lst G pm_M103 T_4020 (pc' := 182) (pm_q103_1 (Nat.le_of_ble_eq_true rfl)) e4069 (by decide) ⟨_, rfl⟩ (sf_in B4090 (by decide) (by decide)) rfl (fun h4237 T4238 F4239 e4240 => ?_)
                      have F4241 := F_4020.trans F4239 (by decide)
                      refine sf_R_iinc pm_M103 (pc' := 185) (ls' := fun z => [.ref 31, .ref a0, .int a1, .int a2, .int z13, .int x5_2694, .int z2713, .int z2722, .int z, .long z4065, pm_no, .long z4081, pm_no, .int z4088]) (pm_q103_1 (Nat.le_of_ble_eq_true rfl)) B4050 rfl (by decide) (by decide) (by decide) (fun _ => rfl) rfl (fun z4242 e4243 B4244 => ?_)
                      show pm_R _ 103 185 [.ref 31, .ref a0, .int a1, .int a2, .int z13, .int x5_2694, .int z2713, .int z2722, .int z4242, .long z4065, pm_no, .long z4081, pm_no, .int z4088] [] _ _
                      refine pm_R_br pm_M103 (pc' := 61) (pm_q103_1 (Nat.le_of_ble_eq_true rfl)) rfl ?_
                      exact ih_4020 _ (sf_up hN_4020 e4243 B4050 (by decide) (by decide)) h4237 m_4020 z4242 (.long z4065) (pm_no) (.long z4081) (pm_no) (.int z4088) T4238 F4241 W_4020 (sf_weak B4244 (by decide) (by decide)) rfl rfl rfl rfl
                    have B4245 : sf_B 3 3 z4127 := sf_neL0 c4228 sf_k2 B4227
                    rw [sf_pt2 B4245 sf_k3]
                    refine pm_R_br pm_M104 (pc' := 42) (st' := []) rfl rfl ?_
                    refine pm_R_lo pm_M104 (pc' := 43) rfl rfl rfl ?_
                    refine pm_R_ldc2 pm_M104 (pc' := 46) rfl rfl rfl ?_
                    refine pm_R_cs pm_M104 (pc' := 49) (ra := [.long 2, .long z4065]) (rest := []) (ls' := [.long z4065, pm_no, .long 2, pm_no, pm_no, pm_no, pm_no]) rfl rfl (Or.inl rfl) pm_M105 rfl rfl (Nat.le_of_ble_eq_true rfl) rfl rfl ?_
                    refine cl_c105 (d := d + 0)  (fun r4246 => ?_)
                    show pm_R _ 104 49 [.int 3, .long z4065, pm_no, .long z4081, pm_no] [.long r4246] _ _
                    refine pm_R_lo pm_M104 (pc' := 50) rfl rfl rfl ?_
                    refine pm_R_cs pm_M104 (pc' := 53) (ra := [.long z4081]) (rest := [.long r4246]) (ls' := [.long z4081, pm_no, pm_no, pm_no, pm_no]) rfl rfl (Or.inl rfl) pm_M106 rfl rfl (Nat.le_of_ble_eq_true rfl) rfl rfl ?_
                    refine cl_c106 (d := d + 0)  (fun r4253 => ?_)
                    show pm_R _ 104 53 [.int 3, .long z4065, pm_no, .long z4081, pm_no] [.long r4253, .long r4246] _ _
                    refine pm_R_cs pm_M104 (pc' := 56) (ra := [.long r4253, .long r4246]) (rest := []) (ls' := [.long r4246, pm_no, .long r4253, pm_no, pm_no, pm_no, pm_no]) rfl rfl (Or.inl rfl) pm_M105 rfl rfl (Nat.le_of_ble_eq_true rfl) rfl rfl ?_
                    refine cl_c105 (d := d + 0)  (fun r4260 => ?_)
                    show pm_R _ 104 56 [.int 3, .long z4065, pm_no, .long z4081, pm_no] [.long r4260] _ _
                    refine pm_R_ret pm_M104 (r := some (.long r4260)) rfl rfl ?_
                    show pm_R _ 103 180 [.ref 31, .ref a0, .int a1, .int a2, .int z13, .int x5_2694, .int z2713, .int z2722, .int x8_4020, .long z4065, pm_no, .long z4081, pm_no, .int z4088] [.long r4260, .long z4109, .int z4088, .ref 32] _ _
                    refine sf_R_lany pm_M103 (pc' := 181) (st := [.int z4088, .ref 32]) (pm_q103_1 (Nat.le_of_ble_eq_true rfl)) rfl rfl (fun z4267 => ?_)
                    refine cl_R_lst G pm_M103 T_4020 (pc' := 182) (pm_q103_1 (Nat.le_of_ble_eq_true rfl)) e4069 (by decide) ⟨_, rfl⟩ (sf_in B4090 (by decide) (by decide)) rfl (fun h4268 T4269 F4270 e4271 => ?_)
                    have F4272 := F_4020.trans F4270 (by decide)
                    refine sf_R_iinc pm_M103 (pc' := 185) (ls' := fun z => [.ref 31, .ref a0, .int a1, .int a2, .int z13, .int x5_2694, .int z2713, .int z2722, .int z, .long z4065, pm_no, .long z4081, pm_no, .int z4088]) (pm_q103_1 (Nat.le_of_ble_eq_true rfl)) B4050 rfl (by decide) (by decide) (by decide) (fun _ => rfl) rfl (fun z4273 e4274 B4275 => ?_)
                    show pm_R _ 103 185 [.ref 31, .ref a0, .int a1, .int a2, .int z13, .int x5_2694, .int z2713, .int z2722, .int z4273, .long z4065, pm_no, .long z4081, pm_no, .int z4088] [] _ _
                    refine pm_R_br pm_M103 (pc' := 61) (pm_q103_1 (Nat.le_of_ble_eq_true rfl)) rfl ?_
                    exact ih_4020 _ (sf_up hN_4020 e4274 B4050 (by decide) (by decide)) h4268 m_4020 z4273 (.long z4065) (pm_no) (.long z4081) (pm_no) (.int z4088) T4269 F4272 W_4020 (sf_weak B4275 (by decide) (by decide)) rfl rfl rfl rfl
        exact L_4020 _ h_2694 m_2694 0 (g9_2694) (g10_2694) (g11_2694) (g12_2694) (g13_2694) T_2694 F_2694 (rf_W.refl _ _) (sf_weak sf_k0 (by decide) (by decide)) Cg10_2694 Cg12_2694 Cg13_2694 rfl
  exact L_2694 _ h22 m21 a1 (pm_no) (pm_no) (pm_no) (pm_no) (pm_no) (pm_no) (pm_no) (pm_no) T23 F26 (rf_W.refl _ _) Ba1 rfl rfl rfl rfl rfl rfl rfl

set_option maxRecDepth 100000 in
set_option maxHeartbeats 4000000 in
/-- SilentTable$MeaningChart.meaningsOf -/
theorem cl_c100 {d : Nat} {ck : cl_K} {E : Nat → pm_E} {m : Nat → Int32} {o : Nat → Option Nat} {h : pm_H} {Q : Option Value → pm_H → Prop} {a0 : Nat} {a2 : Int32} (G : cl_G ck E) (T : cl_T ck E m o h) (hk0 : ck a0 = 1) (K : ∀ (r : Int64) (m' : Nat → Int32) (h' : pm_H), cl_T ck E m' o h' → rf_G [32] h h' → rf_W [] m m' → Q (some (.long r)) h') : pm_R (d + 3) 100 0 [.ref 31, .ref a0, .ref 38, .int a2, pm_no, pm_no] [] h Q := by
  refine pm_R_lo pm_M100 (pc' := 1) rfl rfl rfl ?_
  refine pm_R_op pm_M100 (pc' := 2) (st' := [.int 1, .int a2]) rfl rfl rfl ?_
  refine pm_R_icmp pm_M100 (t := 11) (pc' := 5) rfl rfl rfl (fun c1 => ?_) (fun c1 => ?_)
  · have B2 : sf_B (-2147483648) 0 a2 := sf_ltL c1 (sf_any a2) sf_k1
    refine pm_R_op pm_M100 (pc' := 12) (st' := [.long 0]) rfl rfl rfl ?_
    exact pm_R_ret pm_M100 (r := some (.long 0)) rfl rfl (K 0 m h T (rf_G.refl [32] h) (rf_W.refl [] m))
  · have B3 : sf_B 1 2147483647 a2 := sf_leR (Int32.not_lt.mp c1) sf_k1 (sf_any a2)
    refine pm_R_lo pm_M100 (pc' := 6) rfl rfl rfl ?_
    refine pm_R_op pm_M100 (pc' := 8) (st' := [.int 12, .int a2]) rfl rfl rfl ?_
    refine pm_R_icmp pm_M100 (t := 13) (pc' := 11) rfl rfl rfl (fun c4 => ?_) (fun c4 => ?_)
    · have B5 : sf_B 1 12 a2 := sf_leL c4 B3 sf_k12
      refine pm_R_op pm_M100 (pc' := 14) (st' := [.int 0]) rfl rfl rfl ?_
      refine pm_R_lo pm_M100 (pc' := 16) (ls' := [.ref 31, .ref a0, .ref 38, .int a2, .int 0, pm_no]) (st' := []) rfl rfl rfl ?_
      have L_498 : ∀ (N : Nat) (h_498 : pm_H) (m_498 : Nat → Int32) (x4_498 : Int32) (g5_498 : Value), cl_T ck E m_498 o h_498 → rf_G [32] h h_498 → rf_W [] m m_498 → sf_B 0 12 x4_498 → g5_498.category = 1 → (12 - x4_498.toInt).toNat = N → pm_R (d + 3) 100 16 [.ref 31, .ref a0, .ref 38, .int a2, .int x4_498, g5_498] [] h_498 Q := by
        intro N
        induction N using Nat.strongRecOn with
        | ind N ih_498 =>
          intro h_498 m_498 x4_498 g5_498 T_498 F_498 W_498 Bx4_498 Cg5_498 hN_498
          have W501 : rf_W [] m m_498 := (rf_W.refl [] m).trans W_498 (by decide)
          refine pm_R_lo pm_M100 (pc' := 18) rfl rfl rfl ?_
          refine pm_R_lo pm_M100 (pc' := 19) rfl rfl rfl ?_
          refine pm_R_icmp pm_M100 (t := 65) (pc' := 22) rfl rfl rfl (fun c502 => ?_) (fun c502 => ?_)
          · have B503 : sf_B 1 12 x4_498 := sf_leR c502 B5 Bx4_498
            refine pm_R_lo pm_M100 (pc' := 66) rfl rfl rfl ?_
            refine pm_R_get pm_M100 (pc' := 69) (v := .ref 32) rfl rfl T_498.e31 (by decide) (T_498.lt (by decide)) rfl rfl ?_
            refine pm_R_op pm_M100 (pc' := 70) (st' := [.int 0, .ref 32]) rfl rfl rfl ?_
            refine pm_R_lo pm_M100 (pc' := 71) rfl rfl rfl ?_
            refine pm_R_op pm_M100 (pc' := 72) (st' := [.int 1, .int a2, .int 0, .ref 32]) rfl rfl rfl ?_
            refine sf_R_isub pm_M100 (pc' := 73) rfl rfl B5 sf_k1 (by decide) (by decide) (fun z504 e505 B506 => ?_)
            refine pm_R_cs pm_M100 (pc' := 76) (ra := [.int z504, .int 0]) (rest := [.ref 32]) (ls' := [.int 0, .int z504]) rfl rfl (Or.inr rfl) pm_M73 rfl rfl (Nat.le_of_ble_eq_true rfl) rfl rfl ?_
            refine pm_R_lo pm_M73 (pc' := 1) rfl rfl rfl ?_
            refine pm_R_lo pm_M73 (pc' := 2) rfl rfl rfl ?_
            refine pm_R_op pm_M73 (pc' := 3) (st' := [.int 1, .int z504, .int z504]) rfl rfl rfl ?_
            refine sf_R_iadd pm_M73 (pc' := 4) rfl rfl B506 sf_k1 (by decide) (by decide) (fun z507 e508 B509 => ?_)
            refine sf_R_imul pm_M73 (pc' := 5) rfl rfl B506 B509 (by decide) (by decide) (by decide) (fun z510 e511 B512 => ?_)
            refine pm_R_op pm_M73 (pc' := 6) (st' := [.int 2, .int z510]) rfl rfl rfl ?_
            refine sf_R_idiv pm_M73 (pc' := 7) rfl rfl B512 sf_k2 (by decide) (by decide) (fun z513 e514 B515 => ?_)
            refine pm_R_lo pm_M73 (pc' := 8) rfl rfl rfl ?_
            refine sf_R_iadd pm_M73 (pc' := 9) rfl rfl B515 sf_k0 (by decide) (by decide) (fun z516 e517 B518 => ?_)
            refine pm_R_ret pm_M73 (r := some (.int z516)) rfl (pm_ret_i _) ?_
            show pm_R _ 100 76 [.ref 31, .ref a0, .ref 38, .int a2, .int x4_498, g5_498] [.int z516, .ref 32] _ _
            refine pm_R_op pm_M100 (pc' := 78) (st' := [.int 6, .int z516, .ref 32]) rfl rfl rfl ?_
            refine sf_R_imul pm_M100 (pc' := 79) rfl rfl B518 sf_k6 (by decide) (by decide) (by decide) (fun z519 e520 B521 => ?_)
            obtain ⟨f525, e526⟩ := T_498.C 32 (by decide) (by decide)
            obtain ⟨z522, ez523⟩ : ∃ y, f525 (Int32.toNatClampNeg z519) = y := ⟨_, rfl⟩
            refine pm_R_lald pm_M100 (pc' := 80) (v := z522) rfl e526 (by decide) (T_498.lt (by decide)) (sf_in B521 (by decide) (by decide)) ez523 rfl ?_
            exact pm_R_ret pm_M100 (r := some (.long z522)) rfl rfl (K z522 m_498 h_498 T_498 F_498 W501)
          · have B528 : sf_B 0 11 x4_498 := sf_ltL (Int32.not_le.mp c502) Bx4_498 B5
            refine pm_R_lo pm_M100 (pc' := 23) rfl rfl rfl ?_
            refine pm_R_lo pm_M100 (pc' := 24) rfl rfl rfl ?_
            refine pm_R_lo pm_M100 (pc' := 25) rfl rfl rfl ?_
            refine pm_R_lo pm_M100 (pc' := 27) rfl rfl rfl ?_
            obtain ⟨f532, e533⟩ := T_498.C 38 (by decide) (by decide)
            obtain ⟨z529, ez530⟩ : ∃ y, f532 (Int32.toNatClampNeg x4_498) = y := ⟨_, rfl⟩
            refine pm_R_iald pm_M100 (pc' := 28) (v := z529) rfl e533 (T_498.lt (by decide)) (sf_in B528 (by decide) (by decide)) ez530 rfl ?_
            refine pm_R_lo pm_M100 (pc' := 30) rfl rfl rfl ?_
            refine pm_R_cv pm_M100 (pc' := 33) (a := 31) (ra := [.int x4_498, .int z529, .ref a0]) (rest := []) (ls' := [.ref 31, .ref a0, .int z529, .int x4_498, pm_no, pm_no, pm_no]) rfl rfl (Or.inl rfl) pm_M101 T_498.e31 rfl (by decide) (T_498.lt (by decide)) rfl rfl (Nat.le_of_ble_eq_true rfl) rfl rfl ?_
            refine cl_c101 (d := d + 0) G T_498 hk0 B528 (fun m537 h538 T539 F540 W541 => ?_)
            have F542 := F_498.trans F540 (by decide)
            have W543 : rf_W [] m m537 := W501.trans W541 (by decide)
            have W544 : rf_W [] m m537 := W_498.trans W541 (by decide)
            show pm_R _ 100 33 [.ref 31, .ref a0, .ref 38, .int a2, .int x4_498, g5_498] [] _ _
            refine pm_R_lo pm_M100 (pc' := 35) rfl rfl rfl ?_
            refine pm_R_op pm_M100 (pc' := 36) (st' := [.int 1, .int x4_498]) rfl rfl rfl ?_
            refine sf_R_isub pm_M100 (pc' := 37) rfl rfl B528 sf_k1 (by decide) (by decide) (fun z545 e546 B547 => ?_)
            refine pm_R_lo pm_M100 (pc' := 39) (ls' := [.ref 31, .ref a0, .ref 38, .int a2, .int x4_498, .int z545]) (st' := []) rfl rfl rfl ?_
            have L_592 : ∀ (N : Nat) (h_592 : pm_H) (m_592 : Nat → Int32) (x5_592 : Int32), cl_T ck E m_592 o h_592 → rf_G [32] h h_592 → rf_W [] m537 m_592 → sf_B (-1) 10 x5_592 → (x5_592.toInt - (-1)).toNat = N → pm_R (d + 3) 100 39 [.ref 31, .ref a0, .ref 38, .int a2, .int x4_498, .int x5_592] [] h_592 Q := by
              intro N
              induction N using Nat.strongRecOn with
              | ind N ih_592 =>
                intro h_592 m_592 x5_592 T_592 F_592 W_592 Bx5_592 hN_592
                have W595 : rf_W [] m m_592 := W543.trans W_592 (by decide)
                have W596 : rf_W [] m m_592 := W544.trans W_592 (by decide)
                refine pm_R_lo pm_M100 (pc' := 41) rfl rfl rfl ?_
                refine pm_R_ifc pm_M100 (t := 59) (pc' := 44) rfl rfl rfl (fun c597 => ?_) (fun c597 => ?_)
                · have B598 : sf_B (-1) (-1) x5_592 := sf_ltL c597 Bx5_592 sf_k0
                  refine sf_R_iinc pm_M100 (pc' := 62) (ls' := fun z => [.ref 31, .ref a0, .ref 38, .int a2, .int z, .int x5_592]) rfl B528 rfl (by decide) (by decide) (by decide) (fun _ => rfl) rfl (fun z599 e600 B601 => ?_)
                  show pm_R _ 100 62 [.ref 31, .ref a0, .ref 38, .int a2, .int z599, .int x5_592] [] _ _
                  refine pm_R_br pm_M100 (pc' := 16) rfl rfl ?_
                  exact ih_498 _ (sf_up hN_498 e600 B528 (by decide) (by decide)) h_592 m_592 z599 (.int x5_592) T_592 F_592 W596 (sf_weak B601 (by decide) (by decide)) rfl rfl
                · have B602 : sf_B 0 10 x5_592 := sf_leR (Int32.not_lt.mp c597) sf_k0 Bx5_592
                  refine pm_R_lo pm_M100 (pc' := 45) rfl rfl rfl ?_
                  refine pm_R_lo pm_M100 (pc' := 46) rfl rfl rfl ?_
                  refine pm_R_lo pm_M100 (pc' := 48) rfl rfl rfl ?_
                  refine pm_R_lo pm_M100 (pc' := 50) rfl rfl rfl ?_
                  refine pm_R_cv pm_M100 (pc' := 53) (a := 31) (ra := [.int x4_498, .int x5_592, .ref a0]) (rest := []) (ls' := [.ref 31, .ref a0, .int x5_592, .int x4_498, pm_no, pm_no, pm_no, pm_no, pm_no, pm_no, pm_no, pm_no, pm_no, pm_no]) rfl rfl (Or.inl rfl) pm_M103 T_592.e31 rfl (by decide) (T_592.lt (by decide)) rfl rfl (Nat.le_of_ble_eq_true rfl) rfl rfl ?_
                  refine cl_c103 (d := d + 0) G T_592 hk0 (sf_weak B602 (by decide) (by decide)) B528 (fun m605 h606 T607 F608 W609 => ?_)
                  have F610 := F_592.trans F608 (by decide)
                  have W611 : rf_W [] m m605 := W595.trans W609 (by decide)
                  have W612 : rf_W [] m m605 := W596.trans W609 (by decide)
                  have W613 : rf_W [] m537 m605 := W_592.trans W609 (by decide)
                  show pm_R _ 100 53 [.ref 31, .ref a0, .ref 38, .int a2, .int x4_498, .int x5_592] [] _ _
                  refine sf_R_iinc pm_M100 (pc' := 56) (ls' := fun z => [.ref 31, .ref a0, .ref 38, .int a2, .int x4_498, .int z]) rfl B602 rfl (by decide) (by decide) (by decide) (fun _ => rfl) rfl (fun z614 e615 B616 => ?_)
                  show pm_R _ 100 56 [.ref 31, .ref a0, .ref 38, .int a2, .int x4_498, .int z614] [] _ _
                  refine pm_R_br pm_M100 (pc' := 39) rfl rfl ?_
                  exact ih_592 _ (sf_dn hN_592 e615 B602 (by decide) (by decide)) h606 m605 z614 T607 F610 W613 (sf_weak B616 (by decide) (by decide)) rfl
            exact L_592 _ h538 m537 z545 T539 F542 (rf_W.refl _ _) B547 rfl
      exact L_498 _ h m 0 (pm_no) T (rf_G.refl [32] h) (rf_W.refl _ _) (sf_weak sf_k0 (by decide) (by decide)) rfl rfl
    · have B617 : sf_B 13 2147483647 a2 := sf_ltR (Int32.not_le.mp c4) sf_k12 B3
      refine pm_R_op pm_M100 (pc' := 12) (st' := [.long 0]) rfl rfl rfl ?_
      exact pm_R_ret pm_M100 (r := some (.long 0)) rfl rfl (K 0 m h T (rf_G.refl [32] h) (rf_W.refl [] m))

set_option maxRecDepth 100000 in
set_option maxHeartbeats 4000000 in
/-- SilentTable.setWorn -/
theorem cl_c99 {d : Nat} {ck : cl_K} {E : Nat → pm_E} {m : Nat → Int32} {o : Nat → Option Nat} {h : pm_H} {Q : Option Value → pm_H → Prop} {a0 : Nat} {a1 : Nat} {a2 : Int32} (G : cl_G ck E) (T : cl_T ck E m o h) (hk0 : ck a0 = 1) (hk1 : ck a1 = 7) (Ba2 : sf_B 0 9 a2) (K : ∀ (m' : Nat → Int32) (h' : pm_H), cl_T ck E m' o h' → rf_G [38] h h' → rf_W [] m m' → Q none h') : pm_R (d + 0) 99 0 [.ref 16, .ref a0, .ref a1, .int a2, pm_no] [] h Q := by
  refine pm_R_op pm_M99 (pc' := 1) (st' := [.int 0]) rfl rfl rfl ?_
  refine pm_R_lo pm_M99 (pc' := 3) (ls' := [.ref 16, .ref a0, .ref a1, .int a2, .int 0]) (st' := []) rfl rfl rfl ?_
  have L_353 : ∀ (N : Nat) (h_353 : pm_H) (m_353 : Nat → Int32) (x4_353 : Int32), cl_T ck E m_353 o h_353 → rf_G [38] h h_353 → rf_W [] m m_353 → sf_B 0 12 x4_353 → (12 - x4_353.toInt).toNat = N → pm_R (d + 0) 99 3 [.ref 16, .ref a0, .ref a1, .int a2, .int x4_353] [] h_353 Q := by
    intro N
    induction N using Nat.strongRecOn with
    | ind N ih_353 =>
      intro h_353 m_353 x4_353 T_353 F_353 W_353 Bx4_353 hN_353
      have W356 : rf_W [] m m_353 := (rf_W.refl [] m).trans W_353 (by decide)
      refine pm_R_lo pm_M99 (pc' := 5) rfl rfl rfl ?_
      refine pm_R_lo pm_M99 (pc' := 6) rfl rfl rfl ?_
      obtain ⟨n357, f358, h359, h360, eE361, eE362, b363⟩ := (G.2.2.1 a1 hk1).2
      have kq364 := (G.2.2.1 a1 hk1).1
      refine pm_R_get pm_M99 (pc' := 9) (v := .int (Int32.ofNat n357)) rfl rfl (T_353.im hk1 (by decide) (by decide) eE361) (G.ge hk1 (by decide)) (T_353.al hk1 (by decide)) rfl rfl ?_
      refine pm_R_icmp pm_M99 (t := 42) (pc' := 12) rfl rfl rfl (fun c365 => ?_) (fun c365 => ?_)
      · have B366 : sf_B 1 12 x4_353 := sf_leR c365 (sf_ofB1 h360 h359 (by decide)) Bx4_353
        exact pm_R_ret pm_M99 (r := none) rfl rfl (K m_353 h_353 T_353 F_353 W356)
      · have B367 : sf_B 0 11 x4_353 := sf_ltL (Int32.not_le.mp c365) Bx4_353 (sf_ofB1 h360 h359 (by decide))
        refine pm_R_lo pm_M99 (pc' := 13) rfl rfl rfl ?_
        refine pm_R_get pm_M99 (pc' := 16) (v := .ref 38) rfl rfl T_353.e16 (by decide) (T_353.lt (by decide)) rfl rfl ?_
        refine pm_R_lo pm_M99 (pc' := 18) rfl rfl rfl ?_
        refine pm_R_lo pm_M99 (pc' := 19) rfl rfl rfl ?_
        obtain ⟨rc368, tc369, rs370, fv371, fw372, fr373, ft374, fn375, h376, h377, B378, eE379, eE380, eE381, eE382, eE383, eE384, b385, b386, b387⟩ := (G.2.1 a0 hk0).2.2.2.2.2
        have kq388 := G.2.1 a0 hk0
        refine pm_R_get pm_M99 (pc' := 22) (v := .ref (a0 + 2)) rfl rfl (T_353.im hk0 (by decide) (by decide) eE379) (G.ge hk0 (by decide)) (T_353.al hk0 (by decide)) rfl rfl ?_
        refine pm_R_lo pm_M99 (pc' := 23) rfl rfl rfl ?_
        refine pm_R_op pm_M99 (pc' := 25) (st' := [.int 10, .int a2, .ref (a0 + 2), .int x4_353, .ref 38]) rfl rfl rfl ?_
        refine sf_R_imul pm_M99 (pc' := 26) rfl rfl Ba2 sf_k10 (by decide) (by decide) (by decide) (fun z389 e390 B391 => ?_)
        refine pm_R_lo pm_M99 (pc' := 27) rfl rfl rfl ?_
        refine pm_R_get pm_M99 (pc' := 30) (v := .ref (a1 + 1)) rfl rfl (T_353.im hk1 (by decide) (by decide) eE361) (G.ge hk1 (by decide)) (T_353.al hk1 (by decide)) rfl rfl ?_
        refine pm_R_lo pm_M99 (pc' := 32) rfl rfl rfl ?_
        have q395 := cl_in1 (n := n357) (Nat.le_trans h360 (by decide)) (Int32.not_le.mp c365) B367 (by decide)
        obtain ⟨z392, ez393⟩ : ∃ y, f358 (Int32.toNatClampNeg x4_353) = y := ⟨_, rfl⟩
        have B394 : sf_B 0 9 z392 := ez393 ▸ b363 _
        refine pm_R_iald pm_M99 (pc' := 33) (v := z392) rfl (T_353.im kq364 (by decide) (by decide) eE362) (T_353.al kq364 (by decide)) q395.1 ez393 rfl ?_
        refine sf_R_iadd pm_M99 (pc' := 34) rfl rfl B391 B394 (by decide) (by decide) (fun z396 e397 B398 => ?_)
        obtain ⟨z399, ez400⟩ : ∃ y, fw372 (Int32.toNatClampNeg z396) = y := ⟨_, rfl⟩
        refine pm_R_iald pm_M99 (pc' := 35) (v := z399) rfl (T_353.im kq388.2.1 (by decide) (by decide) eE381) (T_353.al kq388.2.1 (by decide)) (sf_in B398 (by decide) (by decide)) ez400 rfl ?_
        obtain ⟨f402, e403⟩ := T_353.C 38 (by decide) (by decide)
        refine cl_R_ist G pm_M99 T_353 (pc' := 36) rfl e403 (by decide) ⟨_, rfl⟩ (sf_in B367 (by decide) (by decide)) rfl (fun h405 T406 F407 e408 => ?_)
        have F409 := F_353.trans F407 (by decide)
        refine sf_R_iinc pm_M99 (pc' := 39) (ls' := fun z => [.ref 16, .ref a0, .ref a1, .int a2, .int z]) rfl B367 rfl (by decide) (by decide) (by decide) (fun _ => rfl) rfl (fun z410 e411 B412 => ?_)
        show pm_R _ 99 39 [.ref 16, .ref a0, .ref a1, .int a2, .int z410] [] _ _
        refine pm_R_br pm_M99 (pc' := 3) rfl rfl ?_
        exact ih_353 _ (sf_up hN_353 e411 B367 (by decide) (by decide)) h405 m_353 z410 T406 F409 W_353 (sf_weak B412 (by decide) (by decide)) rfl
  exact L_353 _ h m 0 T (rf_G.refl [38] h) (rf_W.refl _ _) (sf_weak sf_k0 (by decide) (by decide)) rfl

set_option maxRecDepth 100000 in
set_option maxHeartbeats 4000000 in
/-- SilentTable.wornMeanings -/
theorem cl_c98 {d : Nat} {ck : cl_K} {E : Nat → pm_E} {m : Nat → Int32} {o : Nat → Option Nat} {h : pm_H} {Q : Option Value → pm_H → Prop} {a0 : Nat} {a1 : Nat} {a2 : Int32} (G : cl_G ck E) (T : cl_T ck E m o h) (hk0 : ck a0 = 1) (hk1 : ck a1 = 7) (Ba2 : sf_B 0 9 a2) (K : ∀ (r : Int64) (m' : Nat → Int32) (h' : pm_H), cl_T ck E m' o h' → rf_G [32, 38] h h' → rf_W [] m m' → Q (some (.long r)) h') : pm_R (d + 4) 98 0 [.ref 16, .ref a0, .ref a1, .int a2] [] h Q := by
  refine pm_R_lo pm_M98 (pc' := 1) rfl rfl rfl ?_
  refine pm_R_lo pm_M98 (pc' := 2) rfl rfl rfl ?_
  refine pm_R_lo pm_M98 (pc' := 3) rfl rfl rfl ?_
  refine pm_R_lo pm_M98 (pc' := 4) rfl rfl rfl ?_
  refine pm_R_cv pm_M98 (pc' := 7) (a := 16) (ra := [.int a2, .ref a1, .ref a0]) (rest := []) (ls' := [.ref 16, .ref a0, .ref a1, .int a2, pm_no]) rfl rfl (Or.inl rfl) pm_M99 T.e16 rfl (by decide) (T.lt (by decide)) rfl rfl (Nat.le_of_ble_eq_true rfl) rfl rfl ?_
  refine cl_c99 (d := d + 3) G T hk0 hk1 Ba2 (fun m3 h4 T5 F6 W7 => ?_)
  have F8 := (rf_G.refl [32, 38] h).trans F6 (by decide)
  have W9 : rf_W [] m m3 := (rf_W.refl [] m).trans W7 (by decide)
  show pm_R _ 98 7 [.ref 16, .ref a0, .ref a1, .int a2] [] _ _
  refine pm_R_lo pm_M98 (pc' := 8) rfl rfl rfl ?_
  refine pm_R_get pm_M98 (pc' := 11) (v := .ref 31) rfl rfl T5.e16 (by decide) (T5.lt (by decide)) rfl rfl ?_
  refine pm_R_lo pm_M98 (pc' := 12) rfl rfl rfl ?_
  refine pm_R_lo pm_M98 (pc' := 13) rfl rfl rfl ?_
  refine pm_R_get pm_M98 (pc' := 16) (v := .ref 38) rfl rfl T5.e16 (by decide) (T5.lt (by decide)) rfl rfl ?_
  refine pm_R_lo pm_M98 (pc' := 17) rfl rfl rfl ?_
  obtain ⟨n10, f11, h12, h13, eE14, eE15, b16⟩ := (G.2.2.1 a1 hk1).2
  have kq17 := (G.2.2.1 a1 hk1).1
  refine pm_R_get pm_M98 (pc' := 20) (v := .int (Int32.ofNat n10)) rfl rfl (T5.im hk1 (by decide) (by decide) eE14) (G.ge hk1 (by decide)) (T5.al hk1 (by decide)) rfl rfl ?_
  refine pm_R_cv pm_M98 (pc' := 23) (a := 31) (ra := [.int (Int32.ofNat n10), .ref 38, .ref a0]) (rest := []) (ls' := [.ref 31, .ref a0, .ref 38, .int (Int32.ofNat n10), pm_no, pm_no]) rfl rfl (Or.inl rfl) pm_M100 T5.e31 rfl (by decide) (T5.lt (by decide)) rfl rfl (Nat.le_of_ble_eq_true rfl) rfl rfl ?_
  refine cl_c100 (d := d + 0) G T5 hk0 (fun r18 m20 h21 T22 F23 W24 => ?_)
  have F25 := F8.trans F23 (by decide)
  have W26 : rf_W [] m m20 := W9.trans W24 (by decide)
  show pm_R _ 98 23 [.ref 16, .ref a0, .ref a1, .int a2] [.long r18] _ _
  exact pm_R_ret pm_M98 (r := some (.long r18)) rfl rfl (K r18 m20 h21 T22 F25 W26)

theorem sf_aux6 (v0 v1 v2 v3 : Int) (q0 : v0 = v1 + 1) (q1 : v2 = v3 - 1) (q2 : v1 < v2) : v0 < v3 := by omega
theorem sf_aux7 (v0 v1 v2 : Int) (q0 : v0 = v1 - 1) (q1 : v2 < v0) : v2 < v1 := by omega
set_option maxRecDepth 100000 in
set_option maxHeartbeats 4000000 in
/-- SilentTable.meaningsWithout -/
theorem cl_c114 {d : Nat} {ck : cl_K} {E : Nat → pm_E} {m : Nat → Int32} {o : Nat → Option Nat} {h : pm_H} {Q : Option Value → pm_H → Prop} {a0 : Nat} {a1 : Nat} {a2 : Int32} (G : cl_G ck E) (T : cl_T ck E m o h) (hk0 : ck a0 = 1) (hk1 : ck a1 = 7) (Ba2 : sf_B 0 11 a2) (K : ∀ (r : Int64) (m' : Nat → Int32) (h' : pm_H), cl_T ck E m' o h' → rf_G [32, 38] h h' → rf_W [] m m' → Q (some (.long r)) h') : pm_R (d + 4) 114 0 [.ref 16, .ref a0, .ref a1, .int a2, pm_no] [] h Q := by
  refine pm_R_op pm_M114 (pc' := 1) (st' := [.int 0]) rfl rfl rfl ?_
  refine pm_R_lo pm_M114 (pc' := 3) (ls' := [.ref 16, .ref a0, .ref a1, .int a2, .int 0]) (st' := []) rfl rfl rfl ?_
  have L_351 : ∀ (N : Nat) (h_351 : pm_H) (m_351 : Nat → Int32) (x4_351 : Int32), cl_T ck E m_351 o h_351 → rf_G [32, 38] h h_351 → rf_W [] m m_351 → sf_B 0 11 x4_351 → (11 - x4_351.toInt).toNat = N → pm_R (d + 4) 114 3 [.ref 16, .ref a0, .ref a1, .int a2, .int x4_351] [] h_351 Q := by
    intro N
    induction N using Nat.strongRecOn with
    | ind N ih_351 =>
      intro h_351 m_351 x4_351 T_351 F_351 W_351 Bx4_351 hN_351
      have W354 : rf_W [] m m_351 := (rf_W.refl [] m).trans W_351 (by decide)
      refine pm_R_lo pm_M114 (pc' := 5) rfl rfl rfl ?_
      refine pm_R_lo pm_M114 (pc' := 6) rfl rfl rfl ?_
      obtain ⟨n355, f356, h357, h358, eE359, eE360, b361⟩ := (G.2.2.1 a1 hk1).2
      have kq362 := (G.2.2.1 a1 hk1).1
      refine pm_R_get pm_M114 (pc' := 9) (v := .int (Int32.ofNat n355)) rfl rfl (T_351.im hk1 (by decide) (by decide) eE359) (G.ge hk1 (by decide)) (T_351.al hk1 (by decide)) rfl rfl ?_
      refine pm_R_op pm_M114 (pc' := 10) (st' := [.int 1, .int (Int32.ofNat n355), .int x4_351]) rfl rfl rfl ?_
      refine sf_R_isub pm_M114 (pc' := 11) rfl rfl (sf_ofB1 h358 h357 (by decide)) sf_k1 (by decide) (by decide) (fun z363 e364 B365 => ?_)
      refine pm_R_icmp pm_M114 (t := 49) (pc' := 14) rfl rfl rfl (fun c366 => ?_) (fun c366 => ?_)
      · skip
        refine pm_R_lo pm_M114 (pc' := 50) rfl rfl rfl ?_
        refine pm_R_get pm_M114 (pc' := 53) (v := .ref 31) rfl rfl T_351.e16 (by decide) (T_351.lt (by decide)) rfl rfl ?_
        refine pm_R_lo pm_M114 (pc' := 54) rfl rfl rfl ?_
        refine pm_R_lo pm_M114 (pc' := 55) rfl rfl rfl ?_
        refine pm_R_get pm_M114 (pc' := 58) (v := .ref 38) rfl rfl T_351.e16 (by decide) (T_351.lt (by decide)) rfl rfl ?_
        refine pm_R_lo pm_M114 (pc' := 59) rfl rfl rfl ?_
        refine pm_R_get pm_M114 (pc' := 62) (v := .int (Int32.ofNat n355)) rfl rfl (T_351.im hk1 (by decide) (by decide) eE359) (G.ge hk1 (by decide)) (T_351.al hk1 (by decide)) rfl rfl ?_
        refine pm_R_op pm_M114 (pc' := 63) (st' := [.int 1, .int (Int32.ofNat n355), .ref 38, .ref a0, .ref 31]) rfl rfl rfl ?_
        refine sf_R_isubV pm_M114 (pc' := 64) rfl rfl (sf_ofB1 h358 h357 (by decide)) sf_k1 (by decide) (by decide) e364 ?_
        refine pm_R_cv pm_M114 (pc' := 67) (a := 31) (ra := [.int z363, .ref 38, .ref a0]) (rest := []) (ls' := [.ref 31, .ref a0, .ref 38, .int z363, pm_no, pm_no]) rfl rfl (Or.inl rfl) pm_M100 T_351.e31 rfl (by decide) (T_351.lt (by decide)) rfl rfl (Nat.le_of_ble_eq_true rfl) rfl rfl ?_
        refine cl_c100 (d := d + 0) G T_351 hk0 (fun r367 m369 h370 T371 F372 W373 => ?_)
        have F374 := F_351.trans F372 (by decide)
        have W375 : rf_W [] m m369 := W354.trans W373 (by decide)
        have W376 : rf_W [] m m369 := W_351.trans W373 (by decide)
        show pm_R _ 114 67 [.ref 16, .ref a0, .ref a1, .int a2, .int x4_351] [.long r367] _ _
        exact pm_R_ret pm_M114 (r := some (.long r367)) rfl rfl (K r367 m369 h370 T371 F374 W375)
      · have B377 : sf_B 0 10 x4_351 := sf_ltL (Int32.not_le.mp c366) Bx4_351 B365
        have B378 : sf_B 1 11 z363 := sf_ltR (Int32.not_le.mp c366) Bx4_351 B365
        refine pm_R_lo pm_M114 (pc' := 15) rfl rfl rfl ?_
        refine pm_R_get pm_M114 (pc' := 18) (v := .ref 38) rfl rfl T_351.e16 (by decide) (T_351.lt (by decide)) rfl rfl ?_
        refine pm_R_lo pm_M114 (pc' := 20) rfl rfl rfl ?_
        refine pm_R_op pm_M114 (pc' := 21) (st' := [.int 1, .int x4_351, .ref 38]) rfl rfl rfl ?_
        refine pm_R_lo pm_M114 (pc' := 22) rfl rfl rfl ?_
        refine pm_R_get pm_M114 (pc' := 25) (v := .ref (a1 + 1)) rfl rfl (T_351.im hk1 (by decide) (by decide) eE359) (G.ge hk1 (by decide)) (T_351.al hk1 (by decide)) rfl rfl ?_
        refine pm_R_lo pm_M114 (pc' := 27) rfl rfl rfl ?_
        refine pm_R_lo pm_M114 (pc' := 28) rfl rfl rfl ?_
        refine pm_R_icmp pm_M114 (t := 36) (pc' := 31) rfl rfl rfl (fun c379 => ?_) (fun c379 => ?_)
        · have B380 : sf_B 0 10 a2 := sf_leL c379 Ba2 B377
          refine pm_R_lo pm_M114 (pc' := 38) rfl rfl rfl ?_
          refine pm_R_op pm_M114 (pc' := 39) (st' := [.int 1, .int x4_351, .ref (a1 + 1), .int 1, .int x4_351, .ref 38]) rfl rfl rfl ?_
          refine sf_R_iadd pm_M114 (pc' := 40) rfl rfl B377 sf_k1 (by decide) (by decide) (fun z381 e382 B383 => ?_)
          have q387 := cl_in1 (n := n355) (Nat.le_trans h358 (by decide)) (Int32.lt_iff_toInt_lt.mpr (sf_aux6 _ _ _ _ e382 e364 (Int32.lt_iff_toInt_lt.mp (Int32.not_le.mp c366)))) B383 (by decide)
          obtain ⟨z384, ez385⟩ : ∃ y, f356 (Int32.toNatClampNeg z381) = y := ⟨_, rfl⟩
          have B386 : sf_B 0 9 z384 := ez385 ▸ b361 _
          refine pm_R_iald pm_M114 (pc' := 41) (v := z384) rfl (T_351.im kq362 (by decide) (by decide) eE360) (T_351.al kq362 (by decide)) q387.1 ez385 rfl ?_
          refine sf_R_iany pm_M114 (pc' := 42) (st := [.int x4_351, .ref 38]) rfl rfl rfl (fun z391 => ?_)
          obtain ⟨f392, e393⟩ := T_351.C 38 (by decide) (by decide)
          refine cl_R_ist G pm_M114 T_351 (pc' := 43) rfl e393 (by decide) ⟨_, rfl⟩ (sf_in B377 (by decide) (by decide)) rfl (fun h395 T396 F397 e398 => ?_)
          have F399 := F_351.trans F397 (by decide)
          refine sf_R_iinc pm_M114 (pc' := 46) (ls' := fun z => [.ref 16, .ref a0, .ref a1, .int a2, .int z]) rfl B377 rfl (by decide) (by decide) (by decide) (fun _ => rfl) rfl (fun z400 e401 B402 => ?_)
          show pm_R _ 114 46 [.ref 16, .ref a0, .ref a1, .int a2, .int z400] [] _ _
          refine pm_R_br pm_M114 (pc' := 3) rfl rfl ?_
          exact ih_351 _ (sf_up hN_351 e401 B377 (by decide) (by decide)) h395 m_351 z400 T396 F399 W_351 (sf_weak B402 (by decide) (by decide)) rfl
        · have B403 : sf_B 1 11 a2 := sf_ltR (Int32.not_le.mp c379) B377 Ba2
          refine pm_R_lo pm_M114 (pc' := 33) rfl rfl rfl ?_
          refine pm_R_br pm_M114 (pc' := 40) rfl rfl ?_
          have q407 := cl_in1 (n := n355) (Nat.le_trans h358 (by decide)) (Int32.lt_iff_toInt_lt.mpr (sf_aux7 _ _ _ e364 (Int32.lt_iff_toInt_lt.mp (Int32.not_le.mp c366)))) B377 (by decide)
          obtain ⟨z404, ez405⟩ : ∃ y, f356 (Int32.toNatClampNeg x4_351) = y := ⟨_, rfl⟩
          have B406 : sf_B 0 9 z404 := ez405 ▸ b361 _
          refine pm_R_iald pm_M114 (pc' := 41) (v := z404) rfl (T_351.im kq362 (by decide) (by decide) eE360) (T_351.al kq362 (by decide)) q407.1 ez405 rfl ?_
          refine sf_R_iany pm_M114 (pc' := 42) (st := [.int x4_351, .ref 38]) rfl rfl rfl (fun z411 => ?_)
          obtain ⟨f412, e413⟩ := T_351.C 38 (by decide) (by decide)
          refine cl_R_ist G pm_M114 T_351 (pc' := 43) rfl e413 (by decide) ⟨_, rfl⟩ (sf_in B377 (by decide) (by decide)) rfl (fun h415 T416 F417 e418 => ?_)
          have F419 := F_351.trans F417 (by decide)
          refine sf_R_iinc pm_M114 (pc' := 46) (ls' := fun z => [.ref 16, .ref a0, .ref a1, .int a2, .int z]) rfl B377 rfl (by decide) (by decide) (by decide) (fun _ => rfl) rfl (fun z420 e421 B422 => ?_)
          show pm_R _ 114 46 [.ref 16, .ref a0, .ref a1, .int a2, .int z420] [] _ _
          refine pm_R_br pm_M114 (pc' := 3) rfl rfl ?_
          exact ih_351 _ (sf_up hN_351 e421 B377 (by decide) (by decide)) h415 m_351 z420 T416 F419 W_351 (sf_weak B422 (by decide) (by decide)) rfl
  exact L_351 _ h m 0 T (rf_G.refl [32, 38] h) (rf_W.refl _ _) (sf_weak sf_k0 (by decide) (by decide)) rfl

theorem sf_aux8 (v0 v1 v2 : Int) (q0 : v0 = v1 + 1) (q1 : 0 ≤ v2) (q2 : v2 ≤ 49) (q3 : 0 ≤ v1) (q4 : v1 ≤ 49) (q5 : v2 ≤ v1) : v2 ≤ v0 := by omega
theorem sf_aux9 (v0 v1 v2 v3 : Int) (q0 : v0 = v1 + 1) (q1 : v2 = v3 + 1) (q2 : 0 ≤ v1) (q3 : v1 ≤ 49) (q4 : 0 ≤ v3) (q5 : v3 ≤ 49) (q6 : v1 ≤ v3) : v0 ≤ v2 := by omega
set_option maxRecDepth 100000 in
set_option maxHeartbeats 4000000 in
/-- SilentTable$Meal.hear -/
theorem cl_c146 {d : Nat} {ck : cl_K} {E : Nat → pm_E} {m : Nat → Int32} {o : Nat → Option Nat} {h : pm_H} {Q : Option Value → pm_H → Prop} {a : Nat} {a0 : Int32} {a1 : Int32} (G : cl_G ck E) (T : cl_T ck E m o h) (hk : ck a = 9) (Ba0 : sf_B (-1) 5 a0) (Ba1 : sf_B 0 5 a1) (K : ∀ (r : Int32) (m' : Nat → Int32) (h' : pm_H), cl_T ck E m' o h' → rf_G [39] h h' → rf_W [] m m' → sf_B 0 50 r → Q (some (.int r)) h') : pm_R (d + 1) 146 0 [.ref a, .int a0, .int a1, .ref 39, pm_no, pm_no] [] h Q := by
  refine pm_R_op pm_M146 (pc' := 1) (st' := [.int 0]) rfl rfl rfl ?_
  refine pm_R_lo pm_M146 (pc' := 3) (ls' := [.ref a, .int a0, .int a1, .ref 39, .int 0, pm_no]) (st' := []) rfl rfl rfl ?_
  refine pm_R_op pm_M146 (pc' := 4) (st' := [.int 0]) rfl rfl rfl ?_
  refine pm_R_lo pm_M146 (pc' := 6) (ls' := [.ref a, .int a0, .int a1, .ref 39, .int 0, .int 0]) (st' := []) rfl rfl rfl ?_
  have L_538 : ∀ (N : Nat) (h_538 : pm_H) (m_538 : Nat → Int32) (x4_538 : Int32) (x5_538 : Int32), cl_T ck E m_538 o h_538 → rf_G [39] h h_538 → rf_W [] m m_538 → sf_B 0 50 x4_538 → sf_B 0 50 x5_538 → x4_538.toInt ≤ x5_538.toInt → (50 - x5_538.toInt).toNat = N → pm_R (d + 1) 146 6 [.ref a, .int a0, .int a1, .ref 39, .int x4_538, .int x5_538] [] h_538 Q := by
    intro N
    induction N using Nat.strongRecOn with
    | ind N ih_538 =>
      intro h_538 m_538 x4_538 x5_538 T_538 F_538 W_538 Bx4_538 Bx5_538 R0_538 hN_538
      have W541 : rf_W [] m m_538 := (rf_W.refl [] m).trans W_538 (by decide)
      refine pm_R_lo pm_M146 (pc' := 8) rfl rfl rfl ?_
      refine pm_R_lo pm_M146 (pc' := 9) rfl rfl rfl ?_
      obtain ⟨s542, n543, fd544, fg545, fs546, h547, h548, h549, eE550, eE551, eE552, eE553, b554⟩ := (G.2.2.2.1 a hk).2.2.2
      have kq555 := G.2.2.2.1 a hk
      refine pm_R_get pm_M146 (pc' := 12) (v := .int (Int32.ofNat n543)) rfl rfl (T_538.im hk (by decide) (by decide) eE550) (G.ge hk (by decide)) (T_538.al hk (by decide)) rfl rfl ?_
      refine pm_R_icmp pm_M146 (t := 72) (pc' := 15) rfl rfl rfl (fun c556 => ?_) (fun c556 => ?_)
      · skip
        refine pm_R_lo pm_M146 (pc' := 74) rfl rfl rfl ?_
        exact pm_R_ret pm_M146 (r := some (.int x4_538)) rfl (pm_ret_i _) (K x4_538 m_538 h_538 T_538 F_538 W541 Bx4_538)
      · have B557 : sf_B 0 49 x5_538 := sf_ltL (Int32.not_le.mp c556) Bx5_538 (sf_ofB h549 (by decide))
        have B558 : sf_B 0 49 x4_538 := sf_leT R0_538 Bx4_538 B557
        have B559 : sf_B 1 50 (Int32.ofNat n543) := sf_ltR (Int32.not_le.mp c556) Bx5_538 (sf_ofB h549 (by decide))
        refine pm_R_lo pm_M146 (pc' := 16) rfl rfl rfl ?_
        refine pm_R_lo pm_M146 (pc' := 18) rfl rfl rfl ?_
        refine pm_R_cv pm_M146 (pc' := 21) (a := a) (ra := [.int x5_538]) (rest := []) (ls' := [.ref a, .int x5_538]) rfl rfl (Or.inl rfl) pm_M51 (T_538.im hk (by decide) (by decide) eE550) rfl (G.ge hk (by decide)) (T_538.al hk (by decide)) rfl rfl (Nat.le_of_ble_eq_true rfl) rfl rfl ?_
        refine pm_R_lo pm_M51 (pc' := 1) rfl rfl rfl ?_
        refine pm_R_get pm_M51 (pc' := 4) (v := .ref (a + 1)) rfl rfl (T_538.im hk (by decide) (by decide) eE550) (G.ge hk (by decide)) (T_538.al hk (by decide)) rfl rfl ?_
        refine pm_R_lo pm_M51 (pc' := 5) rfl rfl rfl ?_
        refine pm_R_op pm_M51 (pc' := 6) (st' := [.int 4, .int x5_538, .ref (a + 1)]) rfl rfl rfl ?_
        refine sf_R_imul pm_M51 (pc' := 7) rfl rfl B557 sf_k4 (by decide) (by decide) (by decide) (fun z560 e561 B562 => ?_)
        have q566 := cl_in4 (n := n543) (Nat.le_trans h549 (by decide)) (Int32.not_le.mp c556) (sf_aux1 _ _ e561) B557 (by decide) (by decide)
        obtain ⟨z563, ez564⟩ : ∃ y, fd544 (Int32.toNatClampNeg z560) = y := ⟨_, rfl⟩
        have B565 : sf_B 0 2 z563 := ez564 ▸ q566.2.2 ▸ (b554 _ q566.2.1).1
        refine pm_R_iald pm_M51 (pc' := 8) (v := z563) rfl (T_538.im kq555.1 (by decide) (by decide) eE551) (T_538.al kq555.1 (by decide)) q566.1 ez564 rfl ?_
        refine pm_R_op pm_M51 (pc' := 9) (st' := [.int 2, .int z563]) rfl rfl rfl ?_
        refine pm_R_icmp pm_M51 (t := 16) (pc' := 12) rfl rfl rfl (fun c567 => ?_) (fun c567 => ?_)
        · have B568 : sf_B 0 1 z563 := sf_neH0 c567 sf_k2 B565
          refine pm_R_op pm_M51 (pc' := 17) (st' := [.int 0]) rfl rfl rfl ?_
          refine pm_R_ret pm_M51 (r := some (.int 0)) rfl rfl ?_
          show pm_R _ 146 21 [.ref a, .int a0, .int a1, .ref 39, .int x4_538, .int x5_538] [.int 0] _ _
          refine pm_R_br pm_M146 (pc' := 66) (st' := []) rfl rfl ?_
          refine sf_R_iinc pm_M146 (pc' := 69) (ls' := fun z => [.ref a, .int a0, .int a1, .ref 39, .int x4_538, .int z]) rfl B557 rfl (by decide) (by decide) (by decide) (fun _ => rfl) rfl (fun z569 e570 B571 => ?_)
          show pm_R _ 146 69 [.ref a, .int a0, .int a1, .ref 39, .int x4_538, .int z569] [] _ _
          refine pm_R_br pm_M146 (pc' := 6) rfl rfl ?_
          exact ih_538 _ (sf_up hN_538 e570 B557 (by decide) (by decide)) h_538 m_538 x4_538 z569 T_538 F_538 W_538 (sf_weak B558 (by decide) (by decide)) (sf_weak B571 (by decide) (by decide)) (sf_aux8 _ _ _ e570 B558.1 B558.2 B557.1 B557.2 R0_538) rfl
        · have B572 : sf_B 2 2 z563 := sf_eqL (Classical.not_not.mp c567) sf_k2
          refine pm_R_op pm_M51 (pc' := 13) (st' := [.int 1]) rfl rfl rfl ?_
          refine pm_R_br pm_M51 (pc' := 17) rfl rfl ?_
          refine pm_R_ret pm_M51 (r := some (.int 1)) rfl rfl ?_
          show pm_R _ 146 21 [.ref a, .int a0, .int a1, .ref 39, .int x4_538, .int x5_538] [.int 1] _ _
          refine pm_R_br pm_M146 (pc' := 24) (st' := []) rfl rfl ?_
          refine pm_R_lo pm_M146 (pc' := 25) rfl rfl rfl ?_
          refine pm_R_lo pm_M146 (pc' := 27) rfl rfl rfl ?_
          refine pm_R_cv pm_M146 (pc' := 30) (a := a) (ra := [.int x5_538]) (rest := []) (ls' := [.ref a, .int x5_538]) rfl rfl (Or.inl rfl) pm_M52 (T_538.im hk (by decide) (by decide) eE550) rfl (G.ge hk (by decide)) (T_538.al hk (by decide)) rfl rfl (Nat.le_of_ble_eq_true rfl) rfl rfl ?_
          refine pm_R_lo pm_M52 (pc' := 1) rfl rfl rfl ?_
          refine pm_R_get pm_M52 (pc' := 4) (v := .ref (a + 1)) rfl rfl (T_538.im hk (by decide) (by decide) eE550) (G.ge hk (by decide)) (T_538.al hk (by decide)) rfl rfl ?_
          refine pm_R_lo pm_M52 (pc' := 5) rfl rfl rfl ?_
          refine pm_R_op pm_M52 (pc' := 6) (st' := [.int 4, .int x5_538, .ref (a + 1)]) rfl rfl rfl ?_
          refine sf_R_imulV pm_M52 (pc' := 7) rfl rfl B557 sf_k4 (by decide) (by decide) (by decide) e561 ?_
          refine pm_R_op pm_M52 (pc' := 8) (st' := [.int 1, .int z560, .ref (a + 1)]) rfl rfl rfl ?_
          refine sf_R_iadd pm_M52 (pc' := 9) rfl rfl B562 sf_k1 (by decide) (by decide) (fun z573 e574 B575 => ?_)
          have q579 := cl_in4 (n := n543) (Nat.le_trans h549 (by decide)) (Int32.not_le.mp c556) (sf_aux3 _ _ _ e561 e574) B557 (by decide) (by decide)
          obtain ⟨z576, ez577⟩ : ∃ y, fd544 (Int32.toNatClampNeg z573) = y := ⟨_, rfl⟩
          have B578 : sf_B 0 5 z576 := ez577 ▸ q579.2.2 ▸ (cl_seat (b554 _ q579.2.1).2.1 h548)
          refine pm_R_iald pm_M52 (pc' := 10) (v := z576) rfl (T_538.im kq555.1 (by decide) (by decide) eE551) (T_538.al kq555.1 (by decide)) q579.1 ez577 rfl ?_
          refine pm_R_ret pm_M52 (r := some (.int z576)) rfl (pm_ret_i _) ?_
          show pm_R _ 146 30 [.ref a, .int a0, .int a1, .ref 39, .int x4_538, .int x5_538] [.int z576] _ _
          refine pm_R_lo pm_M146 (pc' := 31) rfl rfl rfl ?_
          refine pm_R_icmp pm_M146 (t := 66) (pc' := 34) rfl rfl rfl (fun c580 => ?_) (fun c580 => ?_)
          · skip
            refine sf_R_iinc pm_M146 (pc' := 69) (ls' := fun z => [.ref a, .int a0, .int a1, .ref 39, .int x4_538, .int z]) rfl B557 rfl (by decide) (by decide) (by decide) (fun _ => rfl) rfl (fun z581 e582 B583 => ?_)
            show pm_R _ 146 69 [.ref a, .int a0, .int a1, .ref 39, .int x4_538, .int z581] [] _ _
            refine pm_R_br pm_M146 (pc' := 6) rfl rfl ?_
            exact ih_538 _ (sf_up hN_538 e582 B557 (by decide) (by decide)) h_538 m_538 x4_538 z581 T_538 F_538 W_538 (sf_weak B558 (by decide) (by decide)) (sf_weak B583 (by decide) (by decide)) (sf_aux8 _ _ _ e582 B558.1 B558.2 B557.1 B557.2 R0_538) rfl
          · refine pm_R_lo pm_M146 (pc' := 35) rfl rfl rfl ?_
            refine pm_R_op pm_M146 (pc' := 36) (st' := [.int (-1), .int a0]) rfl rfl rfl ?_
            refine pm_R_icmp pm_M146 (t := 53) (pc' := 39) rfl rfl rfl (fun c584 => ?_) (fun c584 => ?_)
            · have B585 : sf_B (-1) (-1) a0 := sf_eqL c584 sf_kn1
              refine pm_R_lo pm_M146 (pc' := 54) rfl rfl rfl ?_
              refine pm_R_lo pm_M146 (pc' := 56) rfl rfl rfl ?_
              refine pm_R_lo pm_M146 (pc' := 57) rfl rfl rfl ?_
              refine pm_R_lo pm_M146 (pc' := 59) rfl rfl rfl ?_
              refine pm_R_cv pm_M146 (pc' := 62) (a := a) (ra := [.int x5_538]) (rest := [.int x4_538, .ref 39]) (ls' := [.ref a, .int x5_538]) rfl rfl (Or.inl rfl) pm_M147 (T_538.im hk (by decide) (by decide) eE550) rfl (G.ge hk (by decide)) (T_538.al hk (by decide)) rfl rfl (Nat.le_of_ble_eq_true rfl) rfl rfl ?_
              refine pm_R_lo pm_M147 (pc' := 1) rfl rfl rfl ?_
              refine pm_R_get pm_M147 (pc' := 4) (v := .ref (a + 1)) rfl rfl (T_538.im hk (by decide) (by decide) eE550) (G.ge hk (by decide)) (T_538.al hk (by decide)) rfl rfl ?_
              refine pm_R_lo pm_M147 (pc' := 5) rfl rfl rfl ?_
              refine pm_R_op pm_M147 (pc' := 6) (st' := [.int 4, .int x5_538, .ref (a + 1)]) rfl rfl rfl ?_
              refine sf_R_imulV pm_M147 (pc' := 7) rfl rfl B557 sf_k4 (by decide) (by decide) (by decide) e561 ?_
              refine pm_R_op pm_M147 (pc' := 8) (st' := [.int 2, .int z560, .ref (a + 1)]) rfl rfl rfl ?_
              refine sf_R_iadd pm_M147 (pc' := 9) rfl rfl B562 sf_k2 (by decide) (by decide) (fun z586 e587 B588 => ?_)
              have q592 := cl_in4 (n := n543) (Nat.le_trans h549 (by decide)) (Int32.not_le.mp c556) (sf_aux2 _ _ _ e561 e587) B557 (by decide) (by decide)
              obtain ⟨z589, ez590⟩ : ∃ y, fd544 (Int32.toNatClampNeg z586) = y := ⟨_, rfl⟩
              have B591 : sf_B (-1) 9 z589 := ez590 ▸ q592.2.2 ▸ (b554 _ q592.2.1).2.2.1
              refine pm_R_iald pm_M147 (pc' := 10) (v := z589) rfl (T_538.im kq555.1 (by decide) (by decide) eE551) (T_538.al kq555.1 (by decide)) q592.1 ez590 rfl ?_
              refine pm_R_ret pm_M147 (r := some (.int z589)) rfl (pm_ret_i _) ?_
              show pm_R _ 146 62 [.ref a, .int a0, .int a1, .ref 39, .int x4_538, .int x5_538] [.int z589, .int x4_538, .ref 39] _ _
              obtain ⟨f593, e594⟩ := T_538.C 39 (by decide) (by decide)
              refine cl_R_ist G pm_M146 T_538 (pc' := 63) rfl e594 (by decide) ⟨_, rfl⟩ (sf_in B558 (by decide) (by decide)) rfl (fun h596 T597 F598 e599 => ?_)
              have F600 := F_538.trans F598 (by decide)
              refine sf_R_iinc pm_M146 (pc' := 66) (ls' := fun z => [.ref a, .int a0, .int a1, .ref 39, .int z, .int x5_538]) rfl B558 rfl (by decide) (by decide) (by decide) (fun _ => rfl) rfl (fun z601 e602 B603 => ?_)
              show pm_R _ 146 66 [.ref a, .int a0, .int a1, .ref 39, .int z601, .int x5_538] [] _ _
              refine sf_R_iinc pm_M146 (pc' := 69) (ls' := fun z => [.ref a, .int a0, .int a1, .ref 39, .int z601, .int z]) rfl B557 rfl (by decide) (by decide) (by decide) (fun _ => rfl) rfl (fun z604 e605 B606 => ?_)
              show pm_R _ 146 69 [.ref a, .int a0, .int a1, .ref 39, .int z601, .int z604] [] _ _
              refine pm_R_br pm_M146 (pc' := 6) rfl rfl ?_
              exact ih_538 _ (sf_up hN_538 e605 B557 (by decide) (by decide)) h596 m_538 z601 z604 T597 F600 W_538 (sf_weak B603 (by decide) (by decide)) (sf_weak B606 (by decide) (by decide)) (sf_aux9 _ _ _ _ e602 e605 B558.1 B558.2 B557.1 B557.2 R0_538) rfl
            · have B607 : sf_B 0 5 a0 := sf_neL0 c584 sf_kn1 Ba0
              refine pm_R_lo pm_M146 (pc' := 40) rfl rfl rfl ?_
              refine pm_R_get pm_M146 (pc' := 43) (v := .ref (a + 3)) rfl rfl (T_538.im hk (by decide) (by decide) eE550) (G.ge hk (by decide)) (T_538.al hk (by decide)) rfl rfl ?_
              refine pm_R_lo pm_M146 (pc' := 45) rfl rfl rfl ?_
              have q611 := cl_in1 (n := n543) (Nat.le_trans h549 (by decide)) (Int32.not_le.mp c556) B557 (by decide)
              obtain ⟨z608, ez609⟩ : ∃ y, fs546 (Int32.toNatClampNeg x5_538) = y := ⟨_, rfl⟩
              refine pm_R_iald pm_M146 (pc' := 46) (v := z608) rfl (T_538.im kq555.2.2.1 (by decide) (by decide) eE553) (T_538.al kq555.2.2.1 (by decide)) q611.1 ez609 rfl ?_
              refine pm_R_lo pm_M146 (pc' := 47) rfl rfl rfl ?_
              refine sf_R_iany pm_M146 (pc' := 48) (st := []) rfl rfl rfl (fun z615 => ?_)
              refine pm_R_op pm_M146 (pc' := 49) (st' := [.int 1, .int z615]) rfl rfl rfl ?_
              refine sf_R_iandE pm_M146 (pc' := 50) rfl rfl sf_k1 (by decide) (fun z616 e617 B618 => ?_)
              refine pm_R_ifc pm_M146 (t := 66) (pc' := 53) rfl rfl rfl (fun c619 => ?_) (fun c619 => ?_)
              · have B620 : sf_B 0 0 z616 := sf_eqL c619 sf_k0
                refine sf_R_iinc pm_M146 (pc' := 69) (ls' := fun z => [.ref a, .int a0, .int a1, .ref 39, .int x4_538, .int z]) rfl B557 rfl (by decide) (by decide) (by decide) (fun _ => rfl) rfl (fun z621 e622 B623 => ?_)
                show pm_R _ 146 69 [.ref a, .int a0, .int a1, .ref 39, .int x4_538, .int z621] [] _ _
                refine pm_R_br pm_M146 (pc' := 6) rfl rfl ?_
                exact ih_538 _ (sf_up hN_538 e622 B557 (by decide) (by decide)) h_538 m_538 x4_538 z621 T_538 F_538 W_538 (sf_weak B558 (by decide) (by decide)) (sf_weak B623 (by decide) (by decide)) (sf_aux8 _ _ _ e622 B558.1 B558.2 B557.1 B557.2 R0_538) rfl
              · have B624 : sf_B 1 1 z616 := sf_neL0 c619 sf_k0 B618
                refine pm_R_lo pm_M146 (pc' := 54) rfl rfl rfl ?_
                refine pm_R_lo pm_M146 (pc' := 56) rfl rfl rfl ?_
                refine pm_R_lo pm_M146 (pc' := 57) rfl rfl rfl ?_
                refine pm_R_lo pm_M146 (pc' := 59) rfl rfl rfl ?_
                refine pm_R_cv pm_M146 (pc' := 62) (a := a) (ra := [.int x5_538]) (rest := [.int x4_538, .ref 39]) (ls' := [.ref a, .int x5_538]) rfl rfl (Or.inl rfl) pm_M147 (T_538.im hk (by decide) (by decide) eE550) rfl (G.ge hk (by decide)) (T_538.al hk (by decide)) rfl rfl (Nat.le_of_ble_eq_true rfl) rfl rfl ?_
                refine pm_R_lo pm_M147 (pc' := 1) rfl rfl rfl ?_
                refine pm_R_get pm_M147 (pc' := 4) (v := .ref (a + 1)) rfl rfl (T_538.im hk (by decide) (by decide) eE550) (G.ge hk (by decide)) (T_538.al hk (by decide)) rfl rfl ?_
                refine pm_R_lo pm_M147 (pc' := 5) rfl rfl rfl ?_
                refine pm_R_op pm_M147 (pc' := 6) (st' := [.int 4, .int x5_538, .ref (a + 1)]) rfl rfl rfl ?_
                refine sf_R_imulV pm_M147 (pc' := 7) rfl rfl B557 sf_k4 (by decide) (by decide) (by decide) e561 ?_
                refine pm_R_op pm_M147 (pc' := 8) (st' := [.int 2, .int z560, .ref (a + 1)]) rfl rfl rfl ?_
                refine sf_R_iadd pm_M147 (pc' := 9) rfl rfl B562 sf_k2 (by decide) (by decide) (fun z625 e626 B627 => ?_)
                have q631 := cl_in4 (n := n543) (Nat.le_trans h549 (by decide)) (Int32.not_le.mp c556) (sf_aux2 _ _ _ e561 e626) B557 (by decide) (by decide)
                obtain ⟨z628, ez629⟩ : ∃ y, fd544 (Int32.toNatClampNeg z625) = y := ⟨_, rfl⟩
                have B630 : sf_B (-1) 9 z628 := ez629 ▸ q631.2.2 ▸ (b554 _ q631.2.1).2.2.1
                refine pm_R_iald pm_M147 (pc' := 10) (v := z628) rfl (T_538.im kq555.1 (by decide) (by decide) eE551) (T_538.al kq555.1 (by decide)) q631.1 ez629 rfl ?_
                refine pm_R_ret pm_M147 (r := some (.int z628)) rfl (pm_ret_i _) ?_
                show pm_R _ 146 62 [.ref a, .int a0, .int a1, .ref 39, .int x4_538, .int x5_538] [.int z628, .int x4_538, .ref 39] _ _
                obtain ⟨f632, e633⟩ := T_538.C 39 (by decide) (by decide)
                refine cl_R_ist G pm_M146 T_538 (pc' := 63) rfl e633 (by decide) ⟨_, rfl⟩ (sf_in B558 (by decide) (by decide)) rfl (fun h635 T636 F637 e638 => ?_)
                have F639 := F_538.trans F637 (by decide)
                refine sf_R_iinc pm_M146 (pc' := 66) (ls' := fun z => [.ref a, .int a0, .int a1, .ref 39, .int z, .int x5_538]) rfl B558 rfl (by decide) (by decide) (by decide) (fun _ => rfl) rfl (fun z640 e641 B642 => ?_)
                show pm_R _ 146 66 [.ref a, .int a0, .int a1, .ref 39, .int z640, .int x5_538] [] _ _
                refine sf_R_iinc pm_M146 (pc' := 69) (ls' := fun z => [.ref a, .int a0, .int a1, .ref 39, .int z640, .int z]) rfl B557 rfl (by decide) (by decide) (by decide) (fun _ => rfl) rfl (fun z643 e644 B645 => ?_)
                show pm_R _ 146 69 [.ref a, .int a0, .int a1, .ref 39, .int z640, .int z643] [] _ _
                refine pm_R_br pm_M146 (pc' := 6) rfl rfl ?_
                exact ih_538 _ (sf_up hN_538 e644 B557 (by decide) (by decide)) h635 m_538 z640 z643 T636 F639 W_538 (sf_weak B642 (by decide) (by decide)) (sf_weak B645 (by decide) (by decide)) (sf_aux9 _ _ _ _ e641 e644 B558.1 B558.2 B557.1 B557.2 R0_538) rfl
  exact L_538 _ h m 0 0 T (rf_G.refl [39] h) (rf_W.refl _ _) (sf_weak sf_k0 (by decide) (by decide)) (sf_weak sf_k0 (by decide) (by decide)) (by decide) rfl

set_option maxRecDepth 100000 in
set_option maxHeartbeats 4000000 in
/-- SilentTable.heardMeanings -/
theorem cl_c149 {d : Nat} {ck : cl_K} {E : Nat → pm_E} {m : Nat → Int32} {o : Nat → Option Nat} {h : pm_H} {Q : Option Value → pm_H → Prop} {a0 : Nat} {a1 : Nat} {a2 : Int32} {a3 : Int32} (G : cl_G ck E) (T : cl_T ck E m o h) (hk0 : ck a0 = 1) (hk1 : ck a1 = 9) (Ba2 : sf_B (-1) 5 a2) (Ba3 : sf_B 0 5 a3) (K : ∀ (r : Int64) (m' : Nat → Int32) (h' : pm_H), cl_T ck E m' o h' → rf_G [32, 38, 39] h h' → rf_W [] m m' → Q (some (.long r)) h') : pm_R (d + 4) 149 0 [.ref 16, .ref a0, .ref a1, .int a2, .int a3, pm_no, pm_no] [] h Q := by
  refine pm_R_lo pm_M149 (pc' := 1) rfl rfl rfl ?_
  refine pm_R_lo pm_M149 (pc' := 2) rfl rfl rfl ?_
  refine pm_R_lo pm_M149 (pc' := 4) rfl rfl rfl ?_
  refine pm_R_lo pm_M149 (pc' := 5) rfl rfl rfl ?_
  refine pm_R_get pm_M149 (pc' := 8) (v := .ref 39) rfl rfl T.e16 (by decide) (T.lt (by decide)) rfl rfl ?_
  obtain ⟨s1, n2, fd3, fg4, fs5, h6, h7, h8, eE9, eE10, eE11, eE12, b13⟩ := (G.2.2.2.1 a1 hk1).2.2.2
  have kq14 := G.2.2.2.1 a1 hk1
  refine pm_R_cv pm_M149 (pc' := 11) (a := a1) (ra := [.ref 39, .int a3, .int a2]) (rest := []) (ls' := [.ref a1, .int a2, .int a3, .ref 39, pm_no, pm_no]) rfl rfl (Or.inl rfl) pm_M146 (T.im hk1 (by decide) (by decide) eE9) rfl (G.ge hk1 (by decide)) (T.al hk1 (by decide)) rfl rfl (Nat.le_of_ble_eq_true rfl) rfl rfl ?_
  refine cl_c146 (d := d + 2) G T hk1 Ba2 Ba3 (fun r15 m17 h18 T19 F20 W21 B16 => ?_)
  have F22 := (rf_G.refl [32, 38, 39] h).trans F20 (by decide)
  have W23 : rf_W [] m m17 := (rf_W.refl [] m).trans W21 (by decide)
  show pm_R _ 149 11 [.ref 16, .ref a0, .ref a1, .int a2, .int a3, pm_no, pm_no] [.int r15] _ _
  refine pm_R_lo pm_M149 (pc' := 13) (ls' := [.ref 16, .ref a0, .ref a1, .int a2, .int a3, .int r15, pm_no]) (st' := []) rfl rfl rfl ?_
  refine pm_R_lo pm_M149 (pc' := 15) rfl rfl rfl ?_
  refine pm_R_op pm_M149 (pc' := 17) (st' := [.int 12, .int r15]) rfl rfl rfl ?_
  refine pm_R_icmp pm_M149 (t := 22) (pc' := 20) rfl rfl rfl (fun c24 => ?_) (fun c24 => ?_)
  · have B25 : sf_B 0 12 r15 := sf_leL c24 B16 sf_k12
    refine pm_R_op pm_M149 (pc' := 23) (st' := [.int 0]) rfl rfl rfl ?_
    refine pm_R_lo pm_M149 (pc' := 25) (ls' := [.ref 16, .ref a0, .ref a1, .int a2, .int a3, .int r15, .int 0]) (st' := []) rfl rfl rfl ?_
    have L_206 : ∀ (N : Nat) (h_206 : pm_H) (m_206 : Nat → Int32) (x6_206 : Int32), cl_T ck E m_206 o h_206 → rf_G [32, 38, 39] h h_206 → rf_W [] m17 m_206 → sf_B 0 12 x6_206 → (12 - x6_206.toInt).toNat = N → pm_R (d + 4) 149 25 [.ref 16, .ref a0, .ref a1, .int a2, .int a3, .int r15, .int x6_206] [] h_206 Q := by
      intro N
      induction N using Nat.strongRecOn with
      | ind N ih_206 =>
        intro h_206 m_206 x6_206 T_206 F_206 W_206 Bx6_206 hN_206
        have W209 : rf_W [] m m_206 := W23.trans W_206 (by decide)
        refine pm_R_lo pm_M149 (pc' := 27) rfl rfl rfl ?_
        refine pm_R_lo pm_M149 (pc' := 29) rfl rfl rfl ?_
        refine pm_R_icmp pm_M149 (t := 54) (pc' := 32) rfl rfl rfl (fun c210 => ?_) (fun c210 => ?_)
        · skip
          refine pm_R_lo pm_M149 (pc' := 55) rfl rfl rfl ?_
          refine pm_R_get pm_M149 (pc' := 58) (v := .ref 31) rfl rfl T_206.e16 (by decide) (T_206.lt (by decide)) rfl rfl ?_
          refine pm_R_lo pm_M149 (pc' := 59) rfl rfl rfl ?_
          refine pm_R_lo pm_M149 (pc' := 60) rfl rfl rfl ?_
          refine pm_R_get pm_M149 (pc' := 63) (v := .ref 38) rfl rfl T_206.e16 (by decide) (T_206.lt (by decide)) rfl rfl ?_
          refine pm_R_lo pm_M149 (pc' := 65) rfl rfl rfl ?_
          refine pm_R_cv pm_M149 (pc' := 68) (a := 31) (ra := [.int r15, .ref 38, .ref a0]) (rest := []) (ls' := [.ref 31, .ref a0, .ref 38, .int r15, pm_no, pm_no]) rfl rfl (Or.inl rfl) pm_M100 T_206.e31 rfl (by decide) (T_206.lt (by decide)) rfl rfl (Nat.le_of_ble_eq_true rfl) rfl rfl ?_
          refine cl_c100 (d := d + 0) G T_206 hk0 (fun r211 m213 h214 T215 F216 W217 => ?_)
          have F218 := F_206.trans F216 (by decide)
          have W219 : rf_W [] m m213 := W209.trans W217 (by decide)
          have W220 : rf_W [] m17 m213 := W_206.trans W217 (by decide)
          show pm_R _ 149 68 [.ref 16, .ref a0, .ref a1, .int a2, .int a3, .int r15, .int x6_206] [.long r211] _ _
          exact pm_R_ret pm_M149 (r := some (.long r211)) rfl rfl (K r211 m213 h214 T215 F218 W219)
        · have B221 : sf_B 0 11 x6_206 := sf_ltL (Int32.not_le.mp c210) Bx6_206 B25
          have B222 : sf_B 1 12 r15 := sf_ltR (Int32.not_le.mp c210) Bx6_206 B25
          refine pm_R_lo pm_M149 (pc' := 33) rfl rfl rfl ?_
          refine pm_R_get pm_M149 (pc' := 36) (v := .ref 38) rfl rfl T_206.e16 (by decide) (T_206.lt (by decide)) rfl rfl ?_
          refine pm_R_lo pm_M149 (pc' := 38) rfl rfl rfl ?_
          refine pm_R_op pm_M149 (pc' := 39) (st' := [.int 1, .int x6_206, .ref 38]) rfl rfl rfl ?_
          refine pm_R_lo pm_M149 (pc' := 40) rfl rfl rfl ?_
          refine pm_R_get pm_M149 (pc' := 43) (v := .ref 39) rfl rfl T_206.e16 (by decide) (T_206.lt (by decide)) rfl rfl ?_
          refine pm_R_lo pm_M149 (pc' := 45) rfl rfl rfl ?_
          obtain ⟨f226, e227⟩ := T_206.C 39 (by decide) (by decide)
          obtain ⟨z223, ez224⟩ : ∃ y, f226 (Int32.toNatClampNeg x6_206) = y := ⟨_, rfl⟩
          refine pm_R_iald pm_M149 (pc' := 46) (v := z223) rfl e227 (T_206.lt (by decide)) (sf_in B221 (by decide) (by decide)) ez224 rfl ?_
          refine sf_R_iany pm_M149 (pc' := 47) (st := [.int x6_206, .ref 38]) rfl rfl rfl (fun z232 => ?_)
          obtain ⟨f233, e234⟩ := T_206.C 38 (by decide) (by decide)
          refine cl_R_ist G pm_M149 T_206 (pc' := 48) rfl e234 (by decide) ⟨_, rfl⟩ (sf_in B221 (by decide) (by decide)) rfl (fun h236 T237 F238 e239 => ?_)
          have F240 := F_206.trans F238 (by decide)
          refine sf_R_iinc pm_M149 (pc' := 51) (ls' := fun z => [.ref 16, .ref a0, .ref a1, .int a2, .int a3, .int r15, .int z]) rfl B221 rfl (by decide) (by decide) (by decide) (fun _ => rfl) rfl (fun z241 e242 B243 => ?_)
          show pm_R _ 149 51 [.ref 16, .ref a0, .ref a1, .int a2, .int a3, .int r15, .int z241] [] _ _
          refine pm_R_br pm_M149 (pc' := 25) rfl rfl ?_
          exact ih_206 _ (sf_up hN_206 e242 B221 (by decide) (by decide)) h236 m_206 z241 T237 F240 W_206 (sf_weak B243 (by decide) (by decide)) rfl
    exact L_206 _ h18 m17 0 T19 F22 (rf_W.refl _ _) (sf_weak sf_k0 (by decide) (by decide)) rfl
  · have B244 : sf_B 13 50 r15 := sf_ltR (Int32.not_le.mp c24) sf_k12 B16
    refine pm_R_op pm_M149 (pc' := 21) (st' := [.long 0]) rfl rfl rfl ?_
    exact pm_R_ret pm_M149 (r := some (.long 0)) rfl rfl (K 0 m17 h18 T19 F22 W23)

set_option maxRecDepth 100000 in
set_option maxHeartbeats 4000000 in
/-- SilentTable.means -/
theorem cl_c97 {d : Nat} {ck : cl_K} {E : Nat → pm_E} {m : Nat → Int32} {o : Nat → Option Nat} {h : pm_H} {Q : Option Value → pm_H → Prop} {a0 : Int32} {a1 : Int32} {a2 : Int32} (G : cl_G ck E) (T : cl_T ck E m o h)  (K : ∀ (r : Int32) (m' : Nat → Int32) (h' : pm_H), cl_T ck E m' o h' → rf_G [32, 38] h h' → rf_W [] m m' → sf_B (-2) 127 r → Q (some (.int r)) h') : pm_R (d + 5) 97 0 [.ref 16, .int a0, .int a1, .int a2, pm_no, pm_no] [] h Q := by
  refine pm_R_lo pm_M97 (pc' := 1) rfl rfl rfl ?_
  refine pm_R_lo pm_M97 (pc' := 2) rfl rfl rfl ?_
  refine pm_R_cv pm_M97 (pc' := 5) (a := 16) (ra := [.int a0]) (rest := []) (ls' := [.ref 16, .int a0]) rfl rfl (Or.inl rfl) pm_M62 T.e16 rfl (by decide) (T.lt (by decide)) rfl rfl (Nat.le_of_ble_eq_true rfl) rfl rfl ?_
  refine pm_R_lo pm_M62 (pc' := 1) rfl rfl rfl ?_
  refine pm_R_ifc pm_M62 (t := 17) (pc' := 4) rfl rfl rfl (fun c1 => ?_) (fun c1 => ?_)
  · have B2 : sf_B (-2147483648) (-1) a0 := sf_ltL c1 (sf_any a0) sf_k0
    refine pm_R_op pm_M62 (pc' := 18) (st' := [.null]) rfl rfl rfl ?_
    refine pm_R_br pm_M62 (pc' := 30) rfl rfl ?_
    refine pm_R_ret pm_M62 (r := some (.null)) rfl rfl ?_
    show pm_R _ 97 5 [.ref 16, .int a0, .int a1, .int a2, pm_no, pm_no] [.null] _ _
    refine pm_R_lo pm_M97 (pc' := 7) (ls' := [.ref 16, .int a0, .int a1, .int a2, .null, pm_no]) (st' := []) rfl rfl rfl ?_
    refine pm_R_lo pm_M97 (pc' := 8) rfl rfl rfl ?_
    refine pm_R_lo pm_M97 (pc' := 9) rfl rfl rfl ?_
    refine pm_R_cv pm_M97 (pc' := 12) (a := 16) (ra := [.int a1]) (rest := []) (ls' := [.ref 16, .int a1]) rfl rfl (Or.inl rfl) pm_M66 T.e16 rfl (by decide) (T.lt (by decide)) rfl rfl (Nat.le_of_ble_eq_true rfl) rfl rfl ?_
    refine pm_R_lo pm_M66 (pc' := 1) rfl rfl rfl ?_
    refine pm_R_ifc pm_M66 (t := 17) (pc' := 4) rfl rfl rfl (fun c3 => ?_) (fun c3 => ?_)
    · have B4 : sf_B (-2147483648) (-1) a1 := sf_ltL c3 (sf_any a1) sf_k0
      refine pm_R_op pm_M66 (pc' := 18) (st' := [.null]) rfl rfl rfl ?_
      refine pm_R_br pm_M66 (pc' := 30) rfl rfl ?_
      refine pm_R_ret pm_M66 (r := some (.null)) rfl rfl ?_
      show pm_R _ 97 12 [.ref 16, .int a0, .int a1, .int a2, .null, pm_no] [.null] _ _
      refine pm_R_lo pm_M97 (pc' := 14) (ls' := [.ref 16, .int a0, .int a1, .int a2, .null, .null]) (st' := []) rfl rfl rfl ?_
      refine pm_R_lo pm_M97 (pc' := 16) rfl rfl rfl ?_
      refine pm_R_br pm_M97 (pc' := 24) rfl rfl ?_
      refine pm_R_op pm_M97 (pc' := 26) (st' := [.int (-2)]) rfl rfl rfl ?_
      exact pm_R_ret pm_M97 (r := some (.int (-2))) rfl rfl (K (-2) m h T (rf_G.refl [32, 38] h) (rf_W.refl [] m) (sf_weak sf_kn2 (by decide) (by decide)))
    · have B5 : sf_B 0 2147483647 a1 := sf_leR (Int32.not_lt.mp c3) sf_k0 (sf_any a1)
      refine pm_R_lo pm_M66 (pc' := 5) rfl rfl rfl ?_
      refine pm_R_lo pm_M66 (pc' := 6) rfl rfl rfl ?_
      refine pm_R_get pm_M66 (pc' := 9) (v := .ref 17) rfl rfl T.e16 (by decide) (T.lt (by decide)) rfl rfl ?_
      refine pm_R_get pm_M66 (pc' := 12) (v := .ref 23) rfl rfl T.e17 (by decide) (T.lt (by decide)) rfl rfl ?_
      refine pm_R_op pm_M66 (pc' := 13) (st' := [.int 1, .ref 23, .int a1]) rfl rfl rfl ?_
      obtain ⟨f9, e10, b11⟩ := T.C 23 (by decide) (by decide)
      obtain ⟨z6, ez7⟩ : ∃ y, f9 (Int32.toNatClampNeg 1) = y := ⟨_, rfl⟩
      have B8 : sf_B 0 3 z6 := ez7 ▸ (b11 1)
      refine pm_R_iald pm_M66 (pc' := 14) (v := z6) rfl e10 (T.lt (by decide)) rfl ez7 rfl ?_
      refine pm_R_icmp pm_M66 (t := 21) (pc' := 17) rfl rfl rfl (fun c12 => ?_) (fun c12 => ?_)
      · have B13 : sf_B 0 2 a1 := sf_ltL c12 B5 B8
        have B14 : sf_B 1 3 z6 := sf_ltR c12 B5 B8
        refine pm_R_lo pm_M66 (pc' := 22) rfl rfl rfl ?_
        refine pm_R_get pm_M66 (pc' := 25) (v := .ref 17) rfl rfl T.e16 (by decide) (T.lt (by decide)) rfl rfl ?_
        refine pm_R_get pm_M66 (pc' := 28) (v := .ref 20) rfl rfl T.e17 (by decide) (T.lt (by decide)) rfl rfl ?_
        refine pm_R_lo pm_M66 (pc' := 29) rfl rfl rfl ?_
        obtain ⟨f15, e16, b17⟩ := T.C 20 (by decide) (by decide)
        obtain ⟨l18, hx19⟩ := cl_there1 T e10 e16 ez7 c12 B13 (by decide)
        have hk20 := b17 _ _ hx19
        refine pm_R_aald pm_M66 (pc' := 30) (v := .ref l18) rfl e16 (by decide) (by decide) (by decide) (T.lt (by decide)) (sf_in B13 (by decide) (by decide)) (by rw [hx19]; rfl) rfl ?_
        refine pm_R_ret pm_M66 (r := some (.ref l18)) rfl rfl ?_
        show pm_R _ 97 12 [.ref 16, .int a0, .int a1, .int a2, .null, pm_no] [.ref l18] _ _
        refine pm_R_lo pm_M97 (pc' := 14) (ls' := [.ref 16, .int a0, .int a1, .int a2, .null, .ref l18]) (st' := []) rfl rfl rfl ?_
        refine pm_R_lo pm_M97 (pc' := 16) rfl rfl rfl ?_
        refine pm_R_br pm_M97 (pc' := 24) rfl rfl ?_
        refine pm_R_op pm_M97 (pc' := 26) (st' := [.int (-2)]) rfl rfl rfl ?_
        exact pm_R_ret pm_M97 (r := some (.int (-2))) rfl rfl (K (-2) m h T (rf_G.refl [32, 38] h) (rf_W.refl [] m) (sf_weak sf_kn2 (by decide) (by decide)))
      · skip
        refine pm_R_op pm_M66 (pc' := 18) (st' := [.null]) rfl rfl rfl ?_
        refine pm_R_br pm_M66 (pc' := 30) rfl rfl ?_
        refine pm_R_ret pm_M66 (r := some (.null)) rfl rfl ?_
        show pm_R _ 97 12 [.ref 16, .int a0, .int a1, .int a2, .null, pm_no] [.null] _ _
        refine pm_R_lo pm_M97 (pc' := 14) (ls' := [.ref 16, .int a0, .int a1, .int a2, .null, .null]) (st' := []) rfl rfl rfl ?_
        refine pm_R_lo pm_M97 (pc' := 16) rfl rfl rfl ?_
        refine pm_R_br pm_M97 (pc' := 24) rfl rfl ?_
        refine pm_R_op pm_M97 (pc' := 26) (st' := [.int (-2)]) rfl rfl rfl ?_
        exact pm_R_ret pm_M97 (r := some (.int (-2))) rfl rfl (K (-2) m h T (rf_G.refl [32, 38] h) (rf_W.refl [] m) (sf_weak sf_kn2 (by decide) (by decide)))
  · have B21 : sf_B 0 2147483647 a0 := sf_leR (Int32.not_lt.mp c1) sf_k0 (sf_any a0)
    refine pm_R_lo pm_M62 (pc' := 5) rfl rfl rfl ?_
    refine pm_R_lo pm_M62 (pc' := 6) rfl rfl rfl ?_
    refine pm_R_get pm_M62 (pc' := 9) (v := .ref 17) rfl rfl T.e16 (by decide) (T.lt (by decide)) rfl rfl ?_
    refine pm_R_get pm_M62 (pc' := 12) (v := .ref 23) rfl rfl T.e17 (by decide) (T.lt (by decide)) rfl rfl ?_
    refine pm_R_op pm_M62 (pc' := 13) (st' := [.int 0, .ref 23, .int a0]) rfl rfl rfl ?_
    obtain ⟨f25, e26, b27⟩ := T.C 23 (by decide) (by decide)
    obtain ⟨z22, ez23⟩ : ∃ y, f25 (Int32.toNatClampNeg 0) = y := ⟨_, rfl⟩
    have B24 : sf_B 0 2 z22 := ez23 ▸ (b27 0)
    refine pm_R_iald pm_M62 (pc' := 14) (v := z22) rfl e26 (T.lt (by decide)) rfl ez23 rfl ?_
    refine pm_R_icmp pm_M62 (t := 21) (pc' := 17) rfl rfl rfl (fun c28 => ?_) (fun c28 => ?_)
    · have B29 : sf_B 0 1 a0 := sf_ltL c28 B21 B24
      have B30 : sf_B 1 2 z22 := sf_ltR c28 B21 B24
      refine pm_R_lo pm_M62 (pc' := 22) rfl rfl rfl ?_
      refine pm_R_get pm_M62 (pc' := 25) (v := .ref 17) rfl rfl T.e16 (by decide) (T.lt (by decide)) rfl rfl ?_
      refine pm_R_get pm_M62 (pc' := 28) (v := .ref 19) rfl rfl T.e17 (by decide) (T.lt (by decide)) rfl rfl ?_
      refine pm_R_lo pm_M62 (pc' := 29) rfl rfl rfl ?_
      obtain ⟨f31, e32, b33⟩ := T.C 19 (by decide) (by decide)
      obtain ⟨l34, hx35⟩ := cl_there0 T e26 e32 ez23 c28 B29 (by decide)
      have hk36 := b33 _ _ hx35
      refine pm_R_aald pm_M62 (pc' := 30) (v := .ref l34) rfl e32 (by decide) (by decide) (by decide) (T.lt (by decide)) (sf_in B29 (by decide) (by decide)) (by rw [hx35]; rfl) rfl ?_
      refine pm_R_ret pm_M62 (r := some (.ref l34)) rfl rfl ?_
      show pm_R _ 97 5 [.ref 16, .int a0, .int a1, .int a2, pm_no, pm_no] [.ref l34] _ _
      refine pm_R_lo pm_M97 (pc' := 7) (ls' := [.ref 16, .int a0, .int a1, .int a2, .ref l34, pm_no]) (st' := []) rfl rfl rfl ?_
      refine pm_R_lo pm_M97 (pc' := 8) rfl rfl rfl ?_
      refine pm_R_lo pm_M97 (pc' := 9) rfl rfl rfl ?_
      refine pm_R_cv pm_M97 (pc' := 12) (a := 16) (ra := [.int a1]) (rest := []) (ls' := [.ref 16, .int a1]) rfl rfl (Or.inl rfl) pm_M66 T.e16 rfl (by decide) (T.lt (by decide)) rfl rfl (Nat.le_of_ble_eq_true rfl) rfl rfl ?_
      refine pm_R_lo pm_M66 (pc' := 1) rfl rfl rfl ?_
      refine pm_R_ifc pm_M66 (t := 17) (pc' := 4) rfl rfl rfl (fun c37 => ?_) (fun c37 => ?_)
      · have B38 : sf_B (-2147483648) (-1) a1 := sf_ltL c37 (sf_any a1) sf_k0
        refine pm_R_op pm_M66 (pc' := 18) (st' := [.null]) rfl rfl rfl ?_
        refine pm_R_br pm_M66 (pc' := 30) rfl rfl ?_
        refine pm_R_ret pm_M66 (r := some (.null)) rfl rfl ?_
        show pm_R _ 97 12 [.ref 16, .int a0, .int a1, .int a2, .ref l34, pm_no] [.null] _ _
        refine pm_R_lo pm_M97 (pc' := 14) (ls' := [.ref 16, .int a0, .int a1, .int a2, .ref l34, .null]) (st' := []) rfl rfl rfl ?_
        refine pm_R_lo pm_M97 (pc' := 16) rfl rfl rfl ?_
        refine pm_R_br pm_M97 (pc' := 19) rfl rfl ?_
        refine pm_R_lo pm_M97 (pc' := 21) rfl rfl rfl ?_
        refine pm_R_br pm_M97 (pc' := 24) rfl rfl ?_
        refine pm_R_op pm_M97 (pc' := 26) (st' := [.int (-2)]) rfl rfl rfl ?_
        exact pm_R_ret pm_M97 (r := some (.int (-2))) rfl rfl (K (-2) m h T (rf_G.refl [32, 38] h) (rf_W.refl [] m) (sf_weak sf_kn2 (by decide) (by decide)))
      · have B39 : sf_B 0 2147483647 a1 := sf_leR (Int32.not_lt.mp c37) sf_k0 (sf_any a1)
        refine pm_R_lo pm_M66 (pc' := 5) rfl rfl rfl ?_
        refine pm_R_lo pm_M66 (pc' := 6) rfl rfl rfl ?_
        refine pm_R_get pm_M66 (pc' := 9) (v := .ref 17) rfl rfl T.e16 (by decide) (T.lt (by decide)) rfl rfl ?_
        refine pm_R_get pm_M66 (pc' := 12) (v := .ref 23) rfl rfl T.e17 (by decide) (T.lt (by decide)) rfl rfl ?_
        refine pm_R_op pm_M66 (pc' := 13) (st' := [.int 1, .ref 23, .int a1]) rfl rfl rfl ?_
        obtain ⟨z40, ez41⟩ : ∃ y, f25 (Int32.toNatClampNeg 1) = y := ⟨_, rfl⟩
        have B42 : sf_B 0 3 z40 := ez41 ▸ (b27 1)
        refine pm_R_iald pm_M66 (pc' := 14) (v := z40) rfl e26 (T.lt (by decide)) rfl ez41 rfl ?_
        refine pm_R_icmp pm_M66 (t := 21) (pc' := 17) rfl rfl rfl (fun c43 => ?_) (fun c43 => ?_)
        · have B44 : sf_B 0 2 a1 := sf_ltL c43 B39 B42
          have B45 : sf_B 1 3 z40 := sf_ltR c43 B39 B42
          refine pm_R_lo pm_M66 (pc' := 22) rfl rfl rfl ?_
          refine pm_R_get pm_M66 (pc' := 25) (v := .ref 17) rfl rfl T.e16 (by decide) (T.lt (by decide)) rfl rfl ?_
          refine pm_R_get pm_M66 (pc' := 28) (v := .ref 20) rfl rfl T.e17 (by decide) (T.lt (by decide)) rfl rfl ?_
          refine pm_R_lo pm_M66 (pc' := 29) rfl rfl rfl ?_
          obtain ⟨f46, e47, b48⟩ := T.C 20 (by decide) (by decide)
          obtain ⟨l49, hx50⟩ := cl_there1 T e26 e47 ez41 c43 B44 (by decide)
          have hk51 := b48 _ _ hx50
          refine pm_R_aald pm_M66 (pc' := 30) (v := .ref l49) rfl e47 (by decide) (by decide) (by decide) (T.lt (by decide)) (sf_in B44 (by decide) (by decide)) (by rw [hx50]; rfl) rfl ?_
          refine pm_R_ret pm_M66 (r := some (.ref l49)) rfl rfl ?_
          show pm_R _ 97 12 [.ref 16, .int a0, .int a1, .int a2, .ref l34, pm_no] [.ref l49] _ _
          refine pm_R_lo pm_M97 (pc' := 14) (ls' := [.ref 16, .int a0, .int a1, .int a2, .ref l34, .ref l49]) (st' := []) rfl rfl rfl ?_
          refine pm_R_lo pm_M97 (pc' := 16) rfl rfl rfl ?_
          refine pm_R_br pm_M97 (pc' := 19) rfl rfl ?_
          refine pm_R_lo pm_M97 (pc' := 21) rfl rfl rfl ?_
          refine pm_R_br pm_M97 (pc' := 27) rfl rfl ?_
          refine pm_R_lo pm_M97 (pc' := 28) rfl rfl rfl ?_
          refine pm_R_lo pm_M97 (pc' := 30) rfl rfl rfl ?_
          refine pm_R_lo pm_M97 (pc' := 32) rfl rfl rfl ?_
          refine pm_R_op pm_M97 (pc' := 33) (st' := [.int 0, .ref l49, .ref l34, .ref 16]) rfl rfl rfl ?_
          refine pm_R_cv pm_M97 (pc' := 36) (a := 16) (ra := [.int 0, .ref l49, .ref l34]) (rest := []) (ls' := [.ref 16, .ref l34, .ref l49, .int 0]) rfl rfl (Or.inl rfl) pm_M98 T.e16 rfl (by decide) (T.lt (by decide)) rfl rfl (Nat.le_of_ble_eq_true rfl) rfl rfl ?_
          refine cl_c98 (d := d + 0) G T hk36 hk51 (sf_weak sf_k0 (by decide) (by decide)) (fun r52 m54 h55 T56 F57 W58 => ?_)
          have F59 := (rf_G.refl [32, 38] h).trans F57 (by decide)
          have W60 : rf_W [] m m54 := (rf_W.refl [] m).trans W58 (by decide)
          show pm_R _ 97 36 [.ref 16, .int a0, .int a1, .int a2, .ref l34, .ref l49] [.long r52] _ _
          refine pm_R_lo pm_M97 (pc' := 37) rfl rfl rfl ?_
          refine pm_R_cs pm_M97 (pc' := 40) (ra := [.int a2, .long r52]) (rest := []) (ls' := [.long r52, pm_no, .int a2, pm_no, pm_no, pm_no]) rfl rfl (Or.inl rfl) pm_M107 rfl rfl (Nat.le_of_ble_eq_true rfl) rfl rfl ?_
          refine cl_c107 (d := d + 3)  (fun r61 B62 => ?_)
          show pm_R _ 97 40 [.ref 16, .int a0, .int a1, .int a2, .ref l34, .ref l49] [.int r61] _ _
          exact pm_R_ret pm_M97 (r := some (.int r61)) rfl (pm_ret_i _) (K r61 m54 h55 T56 F59 W60 B62)
        · skip
          refine pm_R_op pm_M66 (pc' := 18) (st' := [.null]) rfl rfl rfl ?_
          refine pm_R_br pm_M66 (pc' := 30) rfl rfl ?_
          refine pm_R_ret pm_M66 (r := some (.null)) rfl rfl ?_
          show pm_R _ 97 12 [.ref 16, .int a0, .int a1, .int a2, .ref l34, pm_no] [.null] _ _
          refine pm_R_lo pm_M97 (pc' := 14) (ls' := [.ref 16, .int a0, .int a1, .int a2, .ref l34, .null]) (st' := []) rfl rfl rfl ?_
          refine pm_R_lo pm_M97 (pc' := 16) rfl rfl rfl ?_
          refine pm_R_br pm_M97 (pc' := 19) rfl rfl ?_
          refine pm_R_lo pm_M97 (pc' := 21) rfl rfl rfl ?_
          refine pm_R_br pm_M97 (pc' := 24) rfl rfl ?_
          refine pm_R_op pm_M97 (pc' := 26) (st' := [.int (-2)]) rfl rfl rfl ?_
          exact pm_R_ret pm_M97 (r := some (.int (-2))) rfl rfl (K (-2) m h T (rf_G.refl [32, 38] h) (rf_W.refl [] m) (sf_weak sf_kn2 (by decide) (by decide)))
    · skip
      refine pm_R_op pm_M62 (pc' := 18) (st' := [.null]) rfl rfl rfl ?_
      refine pm_R_br pm_M62 (pc' := 30) rfl rfl ?_
      refine pm_R_ret pm_M62 (r := some (.null)) rfl rfl ?_
      show pm_R _ 97 5 [.ref 16, .int a0, .int a1, .int a2, pm_no, pm_no] [.null] _ _
      refine pm_R_lo pm_M97 (pc' := 7) (ls' := [.ref 16, .int a0, .int a1, .int a2, .null, pm_no]) (st' := []) rfl rfl rfl ?_
      refine pm_R_lo pm_M97 (pc' := 8) rfl rfl rfl ?_
      refine pm_R_lo pm_M97 (pc' := 9) rfl rfl rfl ?_
      refine pm_R_cv pm_M97 (pc' := 12) (a := 16) (ra := [.int a1]) (rest := []) (ls' := [.ref 16, .int a1]) rfl rfl (Or.inl rfl) pm_M66 T.e16 rfl (by decide) (T.lt (by decide)) rfl rfl (Nat.le_of_ble_eq_true rfl) rfl rfl ?_
      refine pm_R_lo pm_M66 (pc' := 1) rfl rfl rfl ?_
      refine pm_R_ifc pm_M66 (t := 17) (pc' := 4) rfl rfl rfl (fun c68 => ?_) (fun c68 => ?_)
      · have B69 : sf_B (-2147483648) (-1) a1 := sf_ltL c68 (sf_any a1) sf_k0
        refine pm_R_op pm_M66 (pc' := 18) (st' := [.null]) rfl rfl rfl ?_
        refine pm_R_br pm_M66 (pc' := 30) rfl rfl ?_
        refine pm_R_ret pm_M66 (r := some (.null)) rfl rfl ?_
        show pm_R _ 97 12 [.ref 16, .int a0, .int a1, .int a2, .null, pm_no] [.null] _ _
        refine pm_R_lo pm_M97 (pc' := 14) (ls' := [.ref 16, .int a0, .int a1, .int a2, .null, .null]) (st' := []) rfl rfl rfl ?_
        refine pm_R_lo pm_M97 (pc' := 16) rfl rfl rfl ?_
        refine pm_R_br pm_M97 (pc' := 24) rfl rfl ?_
        refine pm_R_op pm_M97 (pc' := 26) (st' := [.int (-2)]) rfl rfl rfl ?_
        exact pm_R_ret pm_M97 (r := some (.int (-2))) rfl rfl (K (-2) m h T (rf_G.refl [32, 38] h) (rf_W.refl [] m) (sf_weak sf_kn2 (by decide) (by decide)))
      · have B70 : sf_B 0 2147483647 a1 := sf_leR (Int32.not_lt.mp c68) sf_k0 (sf_any a1)
        refine pm_R_lo pm_M66 (pc' := 5) rfl rfl rfl ?_
        refine pm_R_lo pm_M66 (pc' := 6) rfl rfl rfl ?_
        refine pm_R_get pm_M66 (pc' := 9) (v := .ref 17) rfl rfl T.e16 (by decide) (T.lt (by decide)) rfl rfl ?_
        refine pm_R_get pm_M66 (pc' := 12) (v := .ref 23) rfl rfl T.e17 (by decide) (T.lt (by decide)) rfl rfl ?_
        refine pm_R_op pm_M66 (pc' := 13) (st' := [.int 1, .ref 23, .int a1]) rfl rfl rfl ?_
        obtain ⟨z71, ez72⟩ : ∃ y, f25 (Int32.toNatClampNeg 1) = y := ⟨_, rfl⟩
        have B73 : sf_B 0 3 z71 := ez72 ▸ (b27 1)
        refine pm_R_iald pm_M66 (pc' := 14) (v := z71) rfl e26 (T.lt (by decide)) rfl ez72 rfl ?_
        refine pm_R_icmp pm_M66 (t := 21) (pc' := 17) rfl rfl rfl (fun c74 => ?_) (fun c74 => ?_)
        · have B75 : sf_B 0 2 a1 := sf_ltL c74 B70 B73
          have B76 : sf_B 1 3 z71 := sf_ltR c74 B70 B73
          refine pm_R_lo pm_M66 (pc' := 22) rfl rfl rfl ?_
          refine pm_R_get pm_M66 (pc' := 25) (v := .ref 17) rfl rfl T.e16 (by decide) (T.lt (by decide)) rfl rfl ?_
          refine pm_R_get pm_M66 (pc' := 28) (v := .ref 20) rfl rfl T.e17 (by decide) (T.lt (by decide)) rfl rfl ?_
          refine pm_R_lo pm_M66 (pc' := 29) rfl rfl rfl ?_
          obtain ⟨f77, e78, b79⟩ := T.C 20 (by decide) (by decide)
          obtain ⟨l80, hx81⟩ := cl_there1 T e26 e78 ez72 c74 B75 (by decide)
          have hk82 := b79 _ _ hx81
          refine pm_R_aald pm_M66 (pc' := 30) (v := .ref l80) rfl e78 (by decide) (by decide) (by decide) (T.lt (by decide)) (sf_in B75 (by decide) (by decide)) (by rw [hx81]; rfl) rfl ?_
          refine pm_R_ret pm_M66 (r := some (.ref l80)) rfl rfl ?_
          show pm_R _ 97 12 [.ref 16, .int a0, .int a1, .int a2, .null, pm_no] [.ref l80] _ _
          refine pm_R_lo pm_M97 (pc' := 14) (ls' := [.ref 16, .int a0, .int a1, .int a2, .null, .ref l80]) (st' := []) rfl rfl rfl ?_
          refine pm_R_lo pm_M97 (pc' := 16) rfl rfl rfl ?_
          refine pm_R_br pm_M97 (pc' := 24) rfl rfl ?_
          refine pm_R_op pm_M97 (pc' := 26) (st' := [.int (-2)]) rfl rfl rfl ?_
          exact pm_R_ret pm_M97 (r := some (.int (-2))) rfl rfl (K (-2) m h T (rf_G.refl [32, 38] h) (rf_W.refl [] m) (sf_weak sf_kn2 (by decide) (by decide)))
        · skip
          refine pm_R_op pm_M66 (pc' := 18) (st' := [.null]) rfl rfl rfl ?_
          refine pm_R_br pm_M66 (pc' := 30) rfl rfl ?_
          refine pm_R_ret pm_M66 (r := some (.null)) rfl rfl ?_
          show pm_R _ 97 12 [.ref 16, .int a0, .int a1, .int a2, .null, pm_no] [.null] _ _
          refine pm_R_lo pm_M97 (pc' := 14) (ls' := [.ref 16, .int a0, .int a1, .int a2, .null, .null]) (st' := []) rfl rfl rfl ?_
          refine pm_R_lo pm_M97 (pc' := 16) rfl rfl rfl ?_
          refine pm_R_br pm_M97 (pc' := 24) rfl rfl ?_
          refine pm_R_op pm_M97 (pc' := 26) (st' := [.int (-2)]) rfl rfl rfl ?_
          exact pm_R_ret pm_M97 (r := some (.int (-2))) rfl rfl (K (-2) m h T (rf_G.refl [32, 38] h) (rf_W.refl [] m) (sf_weak sf_kn2 (by decide) (by decide)))

set_option maxRecDepth 100000 in
set_option maxHeartbeats 4000000 in
/-- SilentTable.could -/
theorem cl_c109 {d : Nat} {ck : cl_K} {E : Nat → pm_E} {m : Nat → Int32} {o : Nat → Option Nat} {h : pm_H} {Q : Option Value → pm_H → Prop} {a0 : Int32} {a1 : Int32} {a2 : Int32} {a3 : Int32} (G : cl_G ck E) (T : cl_T ck E m o h)  (K : ∀ (r : Int32) (m' : Nat → Int32) (h' : pm_H), cl_T ck E m' o h' → rf_G [32, 38] h h' → rf_W [] m m' → sf_B (-2) 127 r → Q (some (.int r)) h') : pm_R (d + 5) 109 0 [.ref 16, .int a0, .int a1, .int a2, .int a3, pm_no, pm_no] [] h Q := by
  refine pm_R_lo pm_M109 (pc' := 1) rfl rfl rfl ?_
  refine pm_R_lo pm_M109 (pc' := 2) rfl rfl rfl ?_
  refine pm_R_cv pm_M109 (pc' := 5) (a := 16) (ra := [.int a0]) (rest := []) (ls' := [.ref 16, .int a0]) rfl rfl (Or.inl rfl) pm_M62 T.e16 rfl (by decide) (T.lt (by decide)) rfl rfl (Nat.le_of_ble_eq_true rfl) rfl rfl ?_
  refine pm_R_lo pm_M62 (pc' := 1) rfl rfl rfl ?_
  refine pm_R_ifc pm_M62 (t := 17) (pc' := 4) rfl rfl rfl (fun c1 => ?_) (fun c1 => ?_)
  · have B2 : sf_B (-2147483648) (-1) a0 := sf_ltL c1 (sf_any a0) sf_k0
    refine pm_R_op pm_M62 (pc' := 18) (st' := [.null]) rfl rfl rfl ?_
    refine pm_R_br pm_M62 (pc' := 30) rfl rfl ?_
    refine pm_R_ret pm_M62 (r := some (.null)) rfl rfl ?_
    show pm_R _ 109 5 [.ref 16, .int a0, .int a1, .int a2, .int a3, pm_no, pm_no] [.null] _ _
    refine pm_R_lo pm_M109 (pc' := 7) (ls' := [.ref 16, .int a0, .int a1, .int a2, .int a3, .null, pm_no]) (st' := []) rfl rfl rfl ?_
    refine pm_R_lo pm_M109 (pc' := 8) rfl rfl rfl ?_
    refine pm_R_lo pm_M109 (pc' := 9) rfl rfl rfl ?_
    refine pm_R_cv pm_M109 (pc' := 12) (a := 16) (ra := [.int a1]) (rest := []) (ls' := [.ref 16, .int a1]) rfl rfl (Or.inl rfl) pm_M66 T.e16 rfl (by decide) (T.lt (by decide)) rfl rfl (Nat.le_of_ble_eq_true rfl) rfl rfl ?_
    refine pm_R_lo pm_M66 (pc' := 1) rfl rfl rfl ?_
    refine pm_R_ifc pm_M66 (t := 17) (pc' := 4) rfl rfl rfl (fun c3 => ?_) (fun c3 => ?_)
    · have B4 : sf_B (-2147483648) (-1) a1 := sf_ltL c3 (sf_any a1) sf_k0
      refine pm_R_op pm_M66 (pc' := 18) (st' := [.null]) rfl rfl rfl ?_
      refine pm_R_br pm_M66 (pc' := 30) rfl rfl ?_
      refine pm_R_ret pm_M66 (r := some (.null)) rfl rfl ?_
      show pm_R _ 109 12 [.ref 16, .int a0, .int a1, .int a2, .int a3, .null, pm_no] [.null] _ _
      refine pm_R_lo pm_M109 (pc' := 14) (ls' := [.ref 16, .int a0, .int a1, .int a2, .int a3, .null, .null]) (st' := []) rfl rfl rfl ?_
      refine pm_R_lo pm_M109 (pc' := 16) rfl rfl rfl ?_
      refine pm_R_br pm_M109 (pc' := 31) rfl rfl ?_
      refine pm_R_op pm_M109 (pc' := 33) (st' := [.int (-2)]) rfl rfl rfl ?_
      exact pm_R_ret pm_M109 (r := some (.int (-2))) rfl rfl (K (-2) m h T (rf_G.refl [32, 38] h) (rf_W.refl [] m) (sf_weak sf_kn2 (by decide) (by decide)))
    · have B5 : sf_B 0 2147483647 a1 := sf_leR (Int32.not_lt.mp c3) sf_k0 (sf_any a1)
      refine pm_R_lo pm_M66 (pc' := 5) rfl rfl rfl ?_
      refine pm_R_lo pm_M66 (pc' := 6) rfl rfl rfl ?_
      refine pm_R_get pm_M66 (pc' := 9) (v := .ref 17) rfl rfl T.e16 (by decide) (T.lt (by decide)) rfl rfl ?_
      refine pm_R_get pm_M66 (pc' := 12) (v := .ref 23) rfl rfl T.e17 (by decide) (T.lt (by decide)) rfl rfl ?_
      refine pm_R_op pm_M66 (pc' := 13) (st' := [.int 1, .ref 23, .int a1]) rfl rfl rfl ?_
      obtain ⟨f9, e10, b11⟩ := T.C 23 (by decide) (by decide)
      obtain ⟨z6, ez7⟩ : ∃ y, f9 (Int32.toNatClampNeg 1) = y := ⟨_, rfl⟩
      have B8 : sf_B 0 3 z6 := ez7 ▸ (b11 1)
      refine pm_R_iald pm_M66 (pc' := 14) (v := z6) rfl e10 (T.lt (by decide)) rfl ez7 rfl ?_
      refine pm_R_icmp pm_M66 (t := 21) (pc' := 17) rfl rfl rfl (fun c12 => ?_) (fun c12 => ?_)
      · have B13 : sf_B 0 2 a1 := sf_ltL c12 B5 B8
        have B14 : sf_B 1 3 z6 := sf_ltR c12 B5 B8
        refine pm_R_lo pm_M66 (pc' := 22) rfl rfl rfl ?_
        refine pm_R_get pm_M66 (pc' := 25) (v := .ref 17) rfl rfl T.e16 (by decide) (T.lt (by decide)) rfl rfl ?_
        refine pm_R_get pm_M66 (pc' := 28) (v := .ref 20) rfl rfl T.e17 (by decide) (T.lt (by decide)) rfl rfl ?_
        refine pm_R_lo pm_M66 (pc' := 29) rfl rfl rfl ?_
        obtain ⟨f15, e16, b17⟩ := T.C 20 (by decide) (by decide)
        obtain ⟨l18, hx19⟩ := cl_there1 T e10 e16 ez7 c12 B13 (by decide)
        have hk20 := b17 _ _ hx19
        refine pm_R_aald pm_M66 (pc' := 30) (v := .ref l18) rfl e16 (by decide) (by decide) (by decide) (T.lt (by decide)) (sf_in B13 (by decide) (by decide)) (by rw [hx19]; rfl) rfl ?_
        refine pm_R_ret pm_M66 (r := some (.ref l18)) rfl rfl ?_
        show pm_R _ 109 12 [.ref 16, .int a0, .int a1, .int a2, .int a3, .null, pm_no] [.ref l18] _ _
        refine pm_R_lo pm_M109 (pc' := 14) (ls' := [.ref 16, .int a0, .int a1, .int a2, .int a3, .null, .ref l18]) (st' := []) rfl rfl rfl ?_
        refine pm_R_lo pm_M109 (pc' := 16) rfl rfl rfl ?_
        refine pm_R_br pm_M109 (pc' := 31) rfl rfl ?_
        refine pm_R_op pm_M109 (pc' := 33) (st' := [.int (-2)]) rfl rfl rfl ?_
        exact pm_R_ret pm_M109 (r := some (.int (-2))) rfl rfl (K (-2) m h T (rf_G.refl [32, 38] h) (rf_W.refl [] m) (sf_weak sf_kn2 (by decide) (by decide)))
      · skip
        refine pm_R_op pm_M66 (pc' := 18) (st' := [.null]) rfl rfl rfl ?_
        refine pm_R_br pm_M66 (pc' := 30) rfl rfl ?_
        refine pm_R_ret pm_M66 (r := some (.null)) rfl rfl ?_
        show pm_R _ 109 12 [.ref 16, .int a0, .int a1, .int a2, .int a3, .null, pm_no] [.null] _ _
        refine pm_R_lo pm_M109 (pc' := 14) (ls' := [.ref 16, .int a0, .int a1, .int a2, .int a3, .null, .null]) (st' := []) rfl rfl rfl ?_
        refine pm_R_lo pm_M109 (pc' := 16) rfl rfl rfl ?_
        refine pm_R_br pm_M109 (pc' := 31) rfl rfl ?_
        refine pm_R_op pm_M109 (pc' := 33) (st' := [.int (-2)]) rfl rfl rfl ?_
        exact pm_R_ret pm_M109 (r := some (.int (-2))) rfl rfl (K (-2) m h T (rf_G.refl [32, 38] h) (rf_W.refl [] m) (sf_weak sf_kn2 (by decide) (by decide)))
  · have B21 : sf_B 0 2147483647 a0 := sf_leR (Int32.not_lt.mp c1) sf_k0 (sf_any a0)
    refine pm_R_lo pm_M62 (pc' := 5) rfl rfl rfl ?_
    refine pm_R_lo pm_M62 (pc' := 6) rfl rfl rfl ?_
    refine pm_R_get pm_M62 (pc' := 9) (v := .ref 17) rfl rfl T.e16 (by decide) (T.lt (by decide)) rfl rfl ?_
    refine pm_R_get pm_M62 (pc' := 12) (v := .ref 23) rfl rfl T.e17 (by decide) (T.lt (by decide)) rfl rfl ?_
    refine pm_R_op pm_M62 (pc' := 13) (st' := [.int 0, .ref 23, .int a0]) rfl rfl rfl ?_
    obtain ⟨f25, e26, b27⟩ := T.C 23 (by decide) (by decide)
    obtain ⟨z22, ez23⟩ : ∃ y, f25 (Int32.toNatClampNeg 0) = y := ⟨_, rfl⟩
    have B24 : sf_B 0 2 z22 := ez23 ▸ (b27 0)
    refine pm_R_iald pm_M62 (pc' := 14) (v := z22) rfl e26 (T.lt (by decide)) rfl ez23 rfl ?_
    refine pm_R_icmp pm_M62 (t := 21) (pc' := 17) rfl rfl rfl (fun c28 => ?_) (fun c28 => ?_)
    · have B29 : sf_B 0 1 a0 := sf_ltL c28 B21 B24
      have B30 : sf_B 1 2 z22 := sf_ltR c28 B21 B24
      refine pm_R_lo pm_M62 (pc' := 22) rfl rfl rfl ?_
      refine pm_R_get pm_M62 (pc' := 25) (v := .ref 17) rfl rfl T.e16 (by decide) (T.lt (by decide)) rfl rfl ?_
      refine pm_R_get pm_M62 (pc' := 28) (v := .ref 19) rfl rfl T.e17 (by decide) (T.lt (by decide)) rfl rfl ?_
      refine pm_R_lo pm_M62 (pc' := 29) rfl rfl rfl ?_
      obtain ⟨f31, e32, b33⟩ := T.C 19 (by decide) (by decide)
      obtain ⟨l34, hx35⟩ := cl_there0 T e26 e32 ez23 c28 B29 (by decide)
      have hk36 := b33 _ _ hx35
      refine pm_R_aald pm_M62 (pc' := 30) (v := .ref l34) rfl e32 (by decide) (by decide) (by decide) (T.lt (by decide)) (sf_in B29 (by decide) (by decide)) (by rw [hx35]; rfl) rfl ?_
      refine pm_R_ret pm_M62 (r := some (.ref l34)) rfl rfl ?_
      show pm_R _ 109 5 [.ref 16, .int a0, .int a1, .int a2, .int a3, pm_no, pm_no] [.ref l34] _ _
      refine pm_R_lo pm_M109 (pc' := 7) (ls' := [.ref 16, .int a0, .int a1, .int a2, .int a3, .ref l34, pm_no]) (st' := []) rfl rfl rfl ?_
      refine pm_R_lo pm_M109 (pc' := 8) rfl rfl rfl ?_
      refine pm_R_lo pm_M109 (pc' := 9) rfl rfl rfl ?_
      refine pm_R_cv pm_M109 (pc' := 12) (a := 16) (ra := [.int a1]) (rest := []) (ls' := [.ref 16, .int a1]) rfl rfl (Or.inl rfl) pm_M66 T.e16 rfl (by decide) (T.lt (by decide)) rfl rfl (Nat.le_of_ble_eq_true rfl) rfl rfl ?_
      refine pm_R_lo pm_M66 (pc' := 1) rfl rfl rfl ?_
      refine pm_R_ifc pm_M66 (t := 17) (pc' := 4) rfl rfl rfl (fun c37 => ?_) (fun c37 => ?_)
      · have B38 : sf_B (-2147483648) (-1) a1 := sf_ltL c37 (sf_any a1) sf_k0
        refine pm_R_op pm_M66 (pc' := 18) (st' := [.null]) rfl rfl rfl ?_
        refine pm_R_br pm_M66 (pc' := 30) rfl rfl ?_
        refine pm_R_ret pm_M66 (r := some (.null)) rfl rfl ?_
        show pm_R _ 109 12 [.ref 16, .int a0, .int a1, .int a2, .int a3, .ref l34, pm_no] [.null] _ _
        refine pm_R_lo pm_M109 (pc' := 14) (ls' := [.ref 16, .int a0, .int a1, .int a2, .int a3, .ref l34, .null]) (st' := []) rfl rfl rfl ?_
        refine pm_R_lo pm_M109 (pc' := 16) rfl rfl rfl ?_
        refine pm_R_br pm_M109 (pc' := 19) rfl rfl ?_
        refine pm_R_lo pm_M109 (pc' := 21) rfl rfl rfl ?_
        refine pm_R_br pm_M109 (pc' := 31) rfl rfl ?_
        refine pm_R_op pm_M109 (pc' := 33) (st' := [.int (-2)]) rfl rfl rfl ?_
        exact pm_R_ret pm_M109 (r := some (.int (-2))) rfl rfl (K (-2) m h T (rf_G.refl [32, 38] h) (rf_W.refl [] m) (sf_weak sf_kn2 (by decide) (by decide)))
      · have B39 : sf_B 0 2147483647 a1 := sf_leR (Int32.not_lt.mp c37) sf_k0 (sf_any a1)
        refine pm_R_lo pm_M66 (pc' := 5) rfl rfl rfl ?_
        refine pm_R_lo pm_M66 (pc' := 6) rfl rfl rfl ?_
        refine pm_R_get pm_M66 (pc' := 9) (v := .ref 17) rfl rfl T.e16 (by decide) (T.lt (by decide)) rfl rfl ?_
        refine pm_R_get pm_M66 (pc' := 12) (v := .ref 23) rfl rfl T.e17 (by decide) (T.lt (by decide)) rfl rfl ?_
        refine pm_R_op pm_M66 (pc' := 13) (st' := [.int 1, .ref 23, .int a1]) rfl rfl rfl ?_
        obtain ⟨z40, ez41⟩ : ∃ y, f25 (Int32.toNatClampNeg 1) = y := ⟨_, rfl⟩
        have B42 : sf_B 0 3 z40 := ez41 ▸ (b27 1)
        refine pm_R_iald pm_M66 (pc' := 14) (v := z40) rfl e26 (T.lt (by decide)) rfl ez41 rfl ?_
        refine pm_R_icmp pm_M66 (t := 21) (pc' := 17) rfl rfl rfl (fun c43 => ?_) (fun c43 => ?_)
        · have B44 : sf_B 0 2 a1 := sf_ltL c43 B39 B42
          have B45 : sf_B 1 3 z40 := sf_ltR c43 B39 B42
          refine pm_R_lo pm_M66 (pc' := 22) rfl rfl rfl ?_
          refine pm_R_get pm_M66 (pc' := 25) (v := .ref 17) rfl rfl T.e16 (by decide) (T.lt (by decide)) rfl rfl ?_
          refine pm_R_get pm_M66 (pc' := 28) (v := .ref 20) rfl rfl T.e17 (by decide) (T.lt (by decide)) rfl rfl ?_
          refine pm_R_lo pm_M66 (pc' := 29) rfl rfl rfl ?_
          obtain ⟨f46, e47, b48⟩ := T.C 20 (by decide) (by decide)
          obtain ⟨l49, hx50⟩ := cl_there1 T e26 e47 ez41 c43 B44 (by decide)
          have hk51 := b48 _ _ hx50
          refine pm_R_aald pm_M66 (pc' := 30) (v := .ref l49) rfl e47 (by decide) (by decide) (by decide) (T.lt (by decide)) (sf_in B44 (by decide) (by decide)) (by rw [hx50]; rfl) rfl ?_
          refine pm_R_ret pm_M66 (r := some (.ref l49)) rfl rfl ?_
          show pm_R _ 109 12 [.ref 16, .int a0, .int a1, .int a2, .int a3, .ref l34, pm_no] [.ref l49] _ _
          refine pm_R_lo pm_M109 (pc' := 14) (ls' := [.ref 16, .int a0, .int a1, .int a2, .int a3, .ref l34, .ref l49]) (st' := []) rfl rfl rfl ?_
          refine pm_R_lo pm_M109 (pc' := 16) rfl rfl rfl ?_
          refine pm_R_br pm_M109 (pc' := 19) rfl rfl ?_
          refine pm_R_lo pm_M109 (pc' := 21) rfl rfl rfl ?_
          refine pm_R_br pm_M109 (pc' := 24) rfl rfl ?_
          refine pm_R_lo pm_M109 (pc' := 25) rfl rfl rfl ?_
          refine pm_R_cs pm_M109 (pc' := 28) (ra := [.int a2]) (rest := []) (ls' := [.int a2]) rfl rfl (Or.inl rfl) pm_M110 rfl rfl (Nat.le_of_ble_eq_true rfl) rfl rfl ?_
          refine pm_R_lo pm_M110 (pc' := 1) rfl rfl rfl ?_
          refine pm_R_ifc pm_M110 (t := 14) (pc' := 4) rfl rfl rfl (fun c52 => ?_) (fun c52 => ?_)
          · have B53 : sf_B (-2147483648) (-1) a2 := sf_ltL c52 (sf_any a2) sf_k0
            refine pm_R_op pm_M110 (pc' := 15) (st' := [.int 0]) rfl rfl rfl ?_
            refine pm_R_ret pm_M110 (r := some (.int 0)) rfl rfl ?_
            show pm_R _ 109 28 [.ref 16, .int a0, .int a1, .int a2, .int a3, .ref l34, .ref l49] [.int 0] _ _
            refine pm_R_br pm_M109 (pc' := 31) (st' := []) rfl rfl ?_
            refine pm_R_op pm_M109 (pc' := 33) (st' := [.int (-2)]) rfl rfl rfl ?_
            exact pm_R_ret pm_M109 (r := some (.int (-2))) rfl rfl (K (-2) m h T (rf_G.refl [32, 38] h) (rf_W.refl [] m) (sf_weak sf_kn2 (by decide) (by decide)))
          · have B54 : sf_B 0 2147483647 a2 := sf_leR (Int32.not_lt.mp c52) sf_k0 (sf_any a2)
            refine pm_R_lo pm_M110 (pc' := 5) rfl rfl rfl ?_
            refine pm_R_op pm_M110 (pc' := 7) (st' := [.int 9, .int a2]) rfl rfl rfl ?_
            refine pm_R_icmp pm_M110 (t := 14) (pc' := 10) rfl rfl rfl (fun c55 => ?_) (fun c55 => ?_)
            · have B56 : sf_B 10 2147483647 a2 := sf_ltR c55 sf_k9 B54
              refine pm_R_op pm_M110 (pc' := 15) (st' := [.int 0]) rfl rfl rfl ?_
              refine pm_R_ret pm_M110 (r := some (.int 0)) rfl rfl ?_
              show pm_R _ 109 28 [.ref 16, .int a0, .int a1, .int a2, .int a3, .ref l34, .ref l49] [.int 0] _ _
              refine pm_R_br pm_M109 (pc' := 31) (st' := []) rfl rfl ?_
              refine pm_R_op pm_M109 (pc' := 33) (st' := [.int (-2)]) rfl rfl rfl ?_
              exact pm_R_ret pm_M109 (r := some (.int (-2))) rfl rfl (K (-2) m h T (rf_G.refl [32, 38] h) (rf_W.refl [] m) (sf_weak sf_kn2 (by decide) (by decide)))
            · have B57 : sf_B 0 9 a2 := sf_leL (Int32.not_lt.mp c55) B54 sf_k9
              refine pm_R_op pm_M110 (pc' := 11) (st' := [.int 1]) rfl rfl rfl ?_
              refine pm_R_br pm_M110 (pc' := 15) rfl rfl ?_
              refine pm_R_ret pm_M110 (r := some (.int 1)) rfl rfl ?_
              show pm_R _ 109 28 [.ref 16, .int a0, .int a1, .int a2, .int a3, .ref l34, .ref l49] [.int 1] _ _
              refine pm_R_br pm_M109 (pc' := 34) (st' := []) rfl rfl ?_
              refine pm_R_lo pm_M109 (pc' := 35) rfl rfl rfl ?_
              refine pm_R_lo pm_M109 (pc' := 37) rfl rfl rfl ?_
              refine pm_R_lo pm_M109 (pc' := 39) rfl rfl rfl ?_
              refine pm_R_lo pm_M109 (pc' := 40) rfl rfl rfl ?_
              refine pm_R_cv pm_M109 (pc' := 43) (a := 16) (ra := [.int a2, .ref l49, .ref l34]) (rest := []) (ls' := [.ref 16, .ref l34, .ref l49, .int a2]) rfl rfl (Or.inl rfl) pm_M98 T.e16 rfl (by decide) (T.lt (by decide)) rfl rfl (Nat.le_of_ble_eq_true rfl) rfl rfl ?_
              refine cl_c98 (d := d + 0) G T hk36 hk51 B57 (fun r58 m60 h61 T62 F63 W64 => ?_)
              have F65 := (rf_G.refl [32, 38] h).trans F63 (by decide)
              have W66 : rf_W [] m m60 := (rf_W.refl [] m).trans W64 (by decide)
              show pm_R _ 109 43 [.ref 16, .int a0, .int a1, .int a2, .int a3, .ref l34, .ref l49] [.long r58] _ _
              refine pm_R_lo pm_M109 (pc' := 45) rfl rfl rfl ?_
              refine pm_R_cs pm_M109 (pc' := 48) (ra := [.int a3, .long r58]) (rest := []) (ls' := [.long r58, pm_no, .int a3, pm_no, pm_no, pm_no]) rfl rfl (Or.inl rfl) pm_M107 rfl rfl (Nat.le_of_ble_eq_true rfl) rfl rfl ?_
              refine cl_c107 (d := d + 3)  (fun r67 B68 => ?_)
              show pm_R _ 109 48 [.ref 16, .int a0, .int a1, .int a2, .int a3, .ref l34, .ref l49] [.int r67] _ _
              exact pm_R_ret pm_M109 (r := some (.int r67)) rfl (pm_ret_i _) (K r67 m60 h61 T62 F65 W66 B68)
        · skip
          refine pm_R_op pm_M66 (pc' := 18) (st' := [.null]) rfl rfl rfl ?_
          refine pm_R_br pm_M66 (pc' := 30) rfl rfl ?_
          refine pm_R_ret pm_M66 (r := some (.null)) rfl rfl ?_
          show pm_R _ 109 12 [.ref 16, .int a0, .int a1, .int a2, .int a3, .ref l34, pm_no] [.null] _ _
          refine pm_R_lo pm_M109 (pc' := 14) (ls' := [.ref 16, .int a0, .int a1, .int a2, .int a3, .ref l34, .null]) (st' := []) rfl rfl rfl ?_
          refine pm_R_lo pm_M109 (pc' := 16) rfl rfl rfl ?_
          refine pm_R_br pm_M109 (pc' := 19) rfl rfl ?_
          refine pm_R_lo pm_M109 (pc' := 21) rfl rfl rfl ?_
          refine pm_R_br pm_M109 (pc' := 31) rfl rfl ?_
          refine pm_R_op pm_M109 (pc' := 33) (st' := [.int (-2)]) rfl rfl rfl ?_
          exact pm_R_ret pm_M109 (r := some (.int (-2))) rfl rfl (K (-2) m h T (rf_G.refl [32, 38] h) (rf_W.refl [] m) (sf_weak sf_kn2 (by decide) (by decide)))
    · skip
      refine pm_R_op pm_M62 (pc' := 18) (st' := [.null]) rfl rfl rfl ?_
      refine pm_R_br pm_M62 (pc' := 30) rfl rfl ?_
      refine pm_R_ret pm_M62 (r := some (.null)) rfl rfl ?_
      show pm_R _ 109 5 [.ref 16, .int a0, .int a1, .int a2, .int a3, pm_no, pm_no] [.null] _ _
      refine pm_R_lo pm_M109 (pc' := 7) (ls' := [.ref 16, .int a0, .int a1, .int a2, .int a3, .null, pm_no]) (st' := []) rfl rfl rfl ?_
      refine pm_R_lo pm_M109 (pc' := 8) rfl rfl rfl ?_
      refine pm_R_lo pm_M109 (pc' := 9) rfl rfl rfl ?_
      refine pm_R_cv pm_M109 (pc' := 12) (a := 16) (ra := [.int a1]) (rest := []) (ls' := [.ref 16, .int a1]) rfl rfl (Or.inl rfl) pm_M66 T.e16 rfl (by decide) (T.lt (by decide)) rfl rfl (Nat.le_of_ble_eq_true rfl) rfl rfl ?_
      refine pm_R_lo pm_M66 (pc' := 1) rfl rfl rfl ?_
      refine pm_R_ifc pm_M66 (t := 17) (pc' := 4) rfl rfl rfl (fun c74 => ?_) (fun c74 => ?_)
      · have B75 : sf_B (-2147483648) (-1) a1 := sf_ltL c74 (sf_any a1) sf_k0
        refine pm_R_op pm_M66 (pc' := 18) (st' := [.null]) rfl rfl rfl ?_
        refine pm_R_br pm_M66 (pc' := 30) rfl rfl ?_
        refine pm_R_ret pm_M66 (r := some (.null)) rfl rfl ?_
        show pm_R _ 109 12 [.ref 16, .int a0, .int a1, .int a2, .int a3, .null, pm_no] [.null] _ _
        refine pm_R_lo pm_M109 (pc' := 14) (ls' := [.ref 16, .int a0, .int a1, .int a2, .int a3, .null, .null]) (st' := []) rfl rfl rfl ?_
        refine pm_R_lo pm_M109 (pc' := 16) rfl rfl rfl ?_
        refine pm_R_br pm_M109 (pc' := 31) rfl rfl ?_
        refine pm_R_op pm_M109 (pc' := 33) (st' := [.int (-2)]) rfl rfl rfl ?_
        exact pm_R_ret pm_M109 (r := some (.int (-2))) rfl rfl (K (-2) m h T (rf_G.refl [32, 38] h) (rf_W.refl [] m) (sf_weak sf_kn2 (by decide) (by decide)))
      · have B76 : sf_B 0 2147483647 a1 := sf_leR (Int32.not_lt.mp c74) sf_k0 (sf_any a1)
        refine pm_R_lo pm_M66 (pc' := 5) rfl rfl rfl ?_
        refine pm_R_lo pm_M66 (pc' := 6) rfl rfl rfl ?_
        refine pm_R_get pm_M66 (pc' := 9) (v := .ref 17) rfl rfl T.e16 (by decide) (T.lt (by decide)) rfl rfl ?_
        refine pm_R_get pm_M66 (pc' := 12) (v := .ref 23) rfl rfl T.e17 (by decide) (T.lt (by decide)) rfl rfl ?_
        refine pm_R_op pm_M66 (pc' := 13) (st' := [.int 1, .ref 23, .int a1]) rfl rfl rfl ?_
        obtain ⟨z77, ez78⟩ : ∃ y, f25 (Int32.toNatClampNeg 1) = y := ⟨_, rfl⟩
        have B79 : sf_B 0 3 z77 := ez78 ▸ (b27 1)
        refine pm_R_iald pm_M66 (pc' := 14) (v := z77) rfl e26 (T.lt (by decide)) rfl ez78 rfl ?_
        refine pm_R_icmp pm_M66 (t := 21) (pc' := 17) rfl rfl rfl (fun c80 => ?_) (fun c80 => ?_)
        · have B81 : sf_B 0 2 a1 := sf_ltL c80 B76 B79
          have B82 : sf_B 1 3 z77 := sf_ltR c80 B76 B79
          refine pm_R_lo pm_M66 (pc' := 22) rfl rfl rfl ?_
          refine pm_R_get pm_M66 (pc' := 25) (v := .ref 17) rfl rfl T.e16 (by decide) (T.lt (by decide)) rfl rfl ?_
          refine pm_R_get pm_M66 (pc' := 28) (v := .ref 20) rfl rfl T.e17 (by decide) (T.lt (by decide)) rfl rfl ?_
          refine pm_R_lo pm_M66 (pc' := 29) rfl rfl rfl ?_
          obtain ⟨f83, e84, b85⟩ := T.C 20 (by decide) (by decide)
          obtain ⟨l86, hx87⟩ := cl_there1 T e26 e84 ez78 c80 B81 (by decide)
          have hk88 := b85 _ _ hx87
          refine pm_R_aald pm_M66 (pc' := 30) (v := .ref l86) rfl e84 (by decide) (by decide) (by decide) (T.lt (by decide)) (sf_in B81 (by decide) (by decide)) (by rw [hx87]; rfl) rfl ?_
          refine pm_R_ret pm_M66 (r := some (.ref l86)) rfl rfl ?_
          show pm_R _ 109 12 [.ref 16, .int a0, .int a1, .int a2, .int a3, .null, pm_no] [.ref l86] _ _
          refine pm_R_lo pm_M109 (pc' := 14) (ls' := [.ref 16, .int a0, .int a1, .int a2, .int a3, .null, .ref l86]) (st' := []) rfl rfl rfl ?_
          refine pm_R_lo pm_M109 (pc' := 16) rfl rfl rfl ?_
          refine pm_R_br pm_M109 (pc' := 31) rfl rfl ?_
          refine pm_R_op pm_M109 (pc' := 33) (st' := [.int (-2)]) rfl rfl rfl ?_
          exact pm_R_ret pm_M109 (r := some (.int (-2))) rfl rfl (K (-2) m h T (rf_G.refl [32, 38] h) (rf_W.refl [] m) (sf_weak sf_kn2 (by decide) (by decide)))
        · skip
          refine pm_R_op pm_M66 (pc' := 18) (st' := [.null]) rfl rfl rfl ?_
          refine pm_R_br pm_M66 (pc' := 30) rfl rfl ?_
          refine pm_R_ret pm_M66 (r := some (.null)) rfl rfl ?_
          show pm_R _ 109 12 [.ref 16, .int a0, .int a1, .int a2, .int a3, .null, pm_no] [.null] _ _
          refine pm_R_lo pm_M109 (pc' := 14) (ls' := [.ref 16, .int a0, .int a1, .int a2, .int a3, .null, .null]) (st' := []) rfl rfl rfl ?_
          refine pm_R_lo pm_M109 (pc' := 16) rfl rfl rfl ?_
          refine pm_R_br pm_M109 (pc' := 31) rfl rfl ?_
          refine pm_R_op pm_M109 (pc' := 33) (st' := [.int (-2)]) rfl rfl rfl ?_
          exact pm_R_ret pm_M109 (r := some (.int (-2))) rfl rfl (K (-2) m h T (rf_G.refl [32, 38] h) (rf_W.refl [] m) (sf_weak sf_kn2 (by decide) (by decide)))

set_option maxRecDepth 100000 in
set_option maxHeartbeats 4000000 in
/-- SilentTable.like -/
theorem cl_c111 {d : Nat} {ck : cl_K} {E : Nat → pm_E} {m : Nat → Int32} {o : Nat → Option Nat} {h : pm_H} {Q : Option Value → pm_H → Prop} {a0 : Int32} {a1 : Int32} {a2 : Int32} (G : cl_G ck E) (T : cl_T ck E m o h)  (K : ∀ (r : Int32) (m' : Nat → Int32) (h' : pm_H), cl_T ck E m' o h' → rf_G [32, 38] h h' → rf_W [] m m' → sf_B (-1) 127 r → Q (some (.int r)) h') : pm_R (d + 5) 111 0 [.ref 16, .int a0, .int a1, .int a2, pm_no, pm_no, pm_no] [] h Q := by
  refine pm_R_lo pm_M111 (pc' := 1) rfl rfl rfl ?_
  refine pm_R_lo pm_M111 (pc' := 2) rfl rfl rfl ?_
  refine pm_R_cv pm_M111 (pc' := 5) (a := 16) (ra := [.int a0]) (rest := []) (ls' := [.ref 16, .int a0]) rfl rfl (Or.inl rfl) pm_M62 T.e16 rfl (by decide) (T.lt (by decide)) rfl rfl (Nat.le_of_ble_eq_true rfl) rfl rfl ?_
  refine pm_R_lo pm_M62 (pc' := 1) rfl rfl rfl ?_
  refine pm_R_ifc pm_M62 (t := 17) (pc' := 4) rfl rfl rfl (fun c1 => ?_) (fun c1 => ?_)
  · have B2 : sf_B (-2147483648) (-1) a0 := sf_ltL c1 (sf_any a0) sf_k0
    refine pm_R_op pm_M62 (pc' := 18) (st' := [.null]) rfl rfl rfl ?_
    refine pm_R_br pm_M62 (pc' := 30) rfl rfl ?_
    refine pm_R_ret pm_M62 (r := some (.null)) rfl rfl ?_
    show pm_R _ 111 5 [.ref 16, .int a0, .int a1, .int a2, pm_no, pm_no, pm_no] [.null] _ _
    refine pm_R_lo pm_M111 (pc' := 7) (ls' := [.ref 16, .int a0, .int a1, .int a2, .null, pm_no, pm_no]) (st' := []) rfl rfl rfl ?_
    refine pm_R_lo pm_M111 (pc' := 8) rfl rfl rfl ?_
    refine pm_R_lo pm_M111 (pc' := 9) rfl rfl rfl ?_
    refine pm_R_cv pm_M111 (pc' := 12) (a := 16) (ra := [.int a1]) (rest := []) (ls' := [.ref 16, .int a1]) rfl rfl (Or.inl rfl) pm_M66 T.e16 rfl (by decide) (T.lt (by decide)) rfl rfl (Nat.le_of_ble_eq_true rfl) rfl rfl ?_
    refine pm_R_lo pm_M66 (pc' := 1) rfl rfl rfl ?_
    refine pm_R_ifc pm_M66 (t := 17) (pc' := 4) rfl rfl rfl (fun c3 => ?_) (fun c3 => ?_)
    · have B4 : sf_B (-2147483648) (-1) a1 := sf_ltL c3 (sf_any a1) sf_k0
      refine pm_R_op pm_M66 (pc' := 18) (st' := [.null]) rfl rfl rfl ?_
      refine pm_R_br pm_M66 (pc' := 30) rfl rfl ?_
      refine pm_R_ret pm_M66 (r := some (.null)) rfl rfl ?_
      show pm_R _ 111 12 [.ref 16, .int a0, .int a1, .int a2, .null, pm_no, pm_no] [.null] _ _
      refine pm_R_lo pm_M111 (pc' := 14) (ls' := [.ref 16, .int a0, .int a1, .int a2, .null, .null, pm_no]) (st' := []) rfl rfl rfl ?_
      refine pm_R_lo pm_M111 (pc' := 15) rfl rfl rfl ?_
      refine pm_R_lo pm_M111 (pc' := 16) rfl rfl rfl ?_
      refine pm_R_cv pm_M111 (pc' := 19) (a := 16) (ra := [.int a2]) (rest := []) (ls' := [.ref 16, .int a2]) rfl rfl (Or.inl rfl) pm_M66 T.e16 rfl (by decide) (T.lt (by decide)) rfl rfl (Nat.le_of_ble_eq_true rfl) rfl rfl ?_
      refine pm_R_lo pm_M66 (pc' := 1) rfl rfl rfl ?_
      refine pm_R_ifc pm_M66 (t := 17) (pc' := 4) rfl rfl rfl (fun c5 => ?_) (fun c5 => ?_)
      · have B6 : sf_B (-2147483648) (-1) a2 := sf_ltL c5 (sf_any a2) sf_k0
        refine pm_R_op pm_M66 (pc' := 18) (st' := [.null]) rfl rfl rfl ?_
        refine pm_R_br pm_M66 (pc' := 30) rfl rfl ?_
        refine pm_R_ret pm_M66 (r := some (.null)) rfl rfl ?_
        show pm_R _ 111 19 [.ref 16, .int a0, .int a1, .int a2, .null, .null, pm_no] [.null] _ _
        refine pm_R_lo pm_M111 (pc' := 21) (ls' := [.ref 16, .int a0, .int a1, .int a2, .null, .null, .null]) (st' := []) rfl rfl rfl ?_
        refine pm_R_lo pm_M111 (pc' := 23) rfl rfl rfl ?_
        refine pm_R_br pm_M111 (pc' := 36) rfl rfl ?_
        refine pm_R_op pm_M111 (pc' := 37) (st' := [.int (-1)]) rfl rfl rfl ?_
        exact pm_R_ret pm_M111 (r := some (.int (-1))) rfl rfl (K (-1) m h T (rf_G.refl [32, 38] h) (rf_W.refl [] m) (sf_weak sf_kn1 (by decide) (by decide)))
      · have B7 : sf_B 0 2147483647 a2 := sf_leR (Int32.not_lt.mp c5) sf_k0 (sf_any a2)
        refine pm_R_lo pm_M66 (pc' := 5) rfl rfl rfl ?_
        refine pm_R_lo pm_M66 (pc' := 6) rfl rfl rfl ?_
        refine pm_R_get pm_M66 (pc' := 9) (v := .ref 17) rfl rfl T.e16 (by decide) (T.lt (by decide)) rfl rfl ?_
        refine pm_R_get pm_M66 (pc' := 12) (v := .ref 23) rfl rfl T.e17 (by decide) (T.lt (by decide)) rfl rfl ?_
        refine pm_R_op pm_M66 (pc' := 13) (st' := [.int 1, .ref 23, .int a2]) rfl rfl rfl ?_
        obtain ⟨f11, e12, b13⟩ := T.C 23 (by decide) (by decide)
        obtain ⟨z8, ez9⟩ : ∃ y, f11 (Int32.toNatClampNeg 1) = y := ⟨_, rfl⟩
        have B10 : sf_B 0 3 z8 := ez9 ▸ (b13 1)
        refine pm_R_iald pm_M66 (pc' := 14) (v := z8) rfl e12 (T.lt (by decide)) rfl ez9 rfl ?_
        refine pm_R_icmp pm_M66 (t := 21) (pc' := 17) rfl rfl rfl (fun c14 => ?_) (fun c14 => ?_)
        · have B15 : sf_B 0 2 a2 := sf_ltL c14 B7 B10
          have B16 : sf_B 1 3 z8 := sf_ltR c14 B7 B10
          refine pm_R_lo pm_M66 (pc' := 22) rfl rfl rfl ?_
          refine pm_R_get pm_M66 (pc' := 25) (v := .ref 17) rfl rfl T.e16 (by decide) (T.lt (by decide)) rfl rfl ?_
          refine pm_R_get pm_M66 (pc' := 28) (v := .ref 20) rfl rfl T.e17 (by decide) (T.lt (by decide)) rfl rfl ?_
          refine pm_R_lo pm_M66 (pc' := 29) rfl rfl rfl ?_
          obtain ⟨f17, e18, b19⟩ := T.C 20 (by decide) (by decide)
          obtain ⟨l20, hx21⟩ := cl_there1 T e12 e18 ez9 c14 B15 (by decide)
          have hk22 := b19 _ _ hx21
          refine pm_R_aald pm_M66 (pc' := 30) (v := .ref l20) rfl e18 (by decide) (by decide) (by decide) (T.lt (by decide)) (sf_in B15 (by decide) (by decide)) (by rw [hx21]; rfl) rfl ?_
          refine pm_R_ret pm_M66 (r := some (.ref l20)) rfl rfl ?_
          show pm_R _ 111 19 [.ref 16, .int a0, .int a1, .int a2, .null, .null, pm_no] [.ref l20] _ _
          refine pm_R_lo pm_M111 (pc' := 21) (ls' := [.ref 16, .int a0, .int a1, .int a2, .null, .null, .ref l20]) (st' := []) rfl rfl rfl ?_
          refine pm_R_lo pm_M111 (pc' := 23) rfl rfl rfl ?_
          refine pm_R_br pm_M111 (pc' := 36) rfl rfl ?_
          refine pm_R_op pm_M111 (pc' := 37) (st' := [.int (-1)]) rfl rfl rfl ?_
          exact pm_R_ret pm_M111 (r := some (.int (-1))) rfl rfl (K (-1) m h T (rf_G.refl [32, 38] h) (rf_W.refl [] m) (sf_weak sf_kn1 (by decide) (by decide)))
        · skip
          refine pm_R_op pm_M66 (pc' := 18) (st' := [.null]) rfl rfl rfl ?_
          refine pm_R_br pm_M66 (pc' := 30) rfl rfl ?_
          refine pm_R_ret pm_M66 (r := some (.null)) rfl rfl ?_
          show pm_R _ 111 19 [.ref 16, .int a0, .int a1, .int a2, .null, .null, pm_no] [.null] _ _
          refine pm_R_lo pm_M111 (pc' := 21) (ls' := [.ref 16, .int a0, .int a1, .int a2, .null, .null, .null]) (st' := []) rfl rfl rfl ?_
          refine pm_R_lo pm_M111 (pc' := 23) rfl rfl rfl ?_
          refine pm_R_br pm_M111 (pc' := 36) rfl rfl ?_
          refine pm_R_op pm_M111 (pc' := 37) (st' := [.int (-1)]) rfl rfl rfl ?_
          exact pm_R_ret pm_M111 (r := some (.int (-1))) rfl rfl (K (-1) m h T (rf_G.refl [32, 38] h) (rf_W.refl [] m) (sf_weak sf_kn1 (by decide) (by decide)))
    · have B23 : sf_B 0 2147483647 a1 := sf_leR (Int32.not_lt.mp c3) sf_k0 (sf_any a1)
      refine pm_R_lo pm_M66 (pc' := 5) rfl rfl rfl ?_
      refine pm_R_lo pm_M66 (pc' := 6) rfl rfl rfl ?_
      refine pm_R_get pm_M66 (pc' := 9) (v := .ref 17) rfl rfl T.e16 (by decide) (T.lt (by decide)) rfl rfl ?_
      refine pm_R_get pm_M66 (pc' := 12) (v := .ref 23) rfl rfl T.e17 (by decide) (T.lt (by decide)) rfl rfl ?_
      refine pm_R_op pm_M66 (pc' := 13) (st' := [.int 1, .ref 23, .int a1]) rfl rfl rfl ?_
      obtain ⟨f27, e28, b29⟩ := T.C 23 (by decide) (by decide)
      obtain ⟨z24, ez25⟩ : ∃ y, f27 (Int32.toNatClampNeg 1) = y := ⟨_, rfl⟩
      have B26 : sf_B 0 3 z24 := ez25 ▸ (b29 1)
      refine pm_R_iald pm_M66 (pc' := 14) (v := z24) rfl e28 (T.lt (by decide)) rfl ez25 rfl ?_
      refine pm_R_icmp pm_M66 (t := 21) (pc' := 17) rfl rfl rfl (fun c30 => ?_) (fun c30 => ?_)
      · have B31 : sf_B 0 2 a1 := sf_ltL c30 B23 B26
        have B32 : sf_B 1 3 z24 := sf_ltR c30 B23 B26
        refine pm_R_lo pm_M66 (pc' := 22) rfl rfl rfl ?_
        refine pm_R_get pm_M66 (pc' := 25) (v := .ref 17) rfl rfl T.e16 (by decide) (T.lt (by decide)) rfl rfl ?_
        refine pm_R_get pm_M66 (pc' := 28) (v := .ref 20) rfl rfl T.e17 (by decide) (T.lt (by decide)) rfl rfl ?_
        refine pm_R_lo pm_M66 (pc' := 29) rfl rfl rfl ?_
        obtain ⟨f33, e34, b35⟩ := T.C 20 (by decide) (by decide)
        obtain ⟨l36, hx37⟩ := cl_there1 T e28 e34 ez25 c30 B31 (by decide)
        have hk38 := b35 _ _ hx37
        refine pm_R_aald pm_M66 (pc' := 30) (v := .ref l36) rfl e34 (by decide) (by decide) (by decide) (T.lt (by decide)) (sf_in B31 (by decide) (by decide)) (by rw [hx37]; rfl) rfl ?_
        refine pm_R_ret pm_M66 (r := some (.ref l36)) rfl rfl ?_
        show pm_R _ 111 12 [.ref 16, .int a0, .int a1, .int a2, .null, pm_no, pm_no] [.ref l36] _ _
        refine pm_R_lo pm_M111 (pc' := 14) (ls' := [.ref 16, .int a0, .int a1, .int a2, .null, .ref l36, pm_no]) (st' := []) rfl rfl rfl ?_
        refine pm_R_lo pm_M111 (pc' := 15) rfl rfl rfl ?_
        refine pm_R_lo pm_M111 (pc' := 16) rfl rfl rfl ?_
        refine pm_R_cv pm_M111 (pc' := 19) (a := 16) (ra := [.int a2]) (rest := []) (ls' := [.ref 16, .int a2]) rfl rfl (Or.inl rfl) pm_M66 T.e16 rfl (by decide) (T.lt (by decide)) rfl rfl (Nat.le_of_ble_eq_true rfl) rfl rfl ?_
        refine pm_R_lo pm_M66 (pc' := 1) rfl rfl rfl ?_
        refine pm_R_ifc pm_M66 (t := 17) (pc' := 4) rfl rfl rfl (fun c39 => ?_) (fun c39 => ?_)
        · have B40 : sf_B (-2147483648) (-1) a2 := sf_ltL c39 (sf_any a2) sf_k0
          refine pm_R_op pm_M66 (pc' := 18) (st' := [.null]) rfl rfl rfl ?_
          refine pm_R_br pm_M66 (pc' := 30) rfl rfl ?_
          refine pm_R_ret pm_M66 (r := some (.null)) rfl rfl ?_
          show pm_R _ 111 19 [.ref 16, .int a0, .int a1, .int a2, .null, .ref l36, pm_no] [.null] _ _
          refine pm_R_lo pm_M111 (pc' := 21) (ls' := [.ref 16, .int a0, .int a1, .int a2, .null, .ref l36, .null]) (st' := []) rfl rfl rfl ?_
          refine pm_R_lo pm_M111 (pc' := 23) rfl rfl rfl ?_
          refine pm_R_br pm_M111 (pc' := 36) rfl rfl ?_
          refine pm_R_op pm_M111 (pc' := 37) (st' := [.int (-1)]) rfl rfl rfl ?_
          exact pm_R_ret pm_M111 (r := some (.int (-1))) rfl rfl (K (-1) m h T (rf_G.refl [32, 38] h) (rf_W.refl [] m) (sf_weak sf_kn1 (by decide) (by decide)))
        · have B41 : sf_B 0 2147483647 a2 := sf_leR (Int32.not_lt.mp c39) sf_k0 (sf_any a2)
          refine pm_R_lo pm_M66 (pc' := 5) rfl rfl rfl ?_
          refine pm_R_lo pm_M66 (pc' := 6) rfl rfl rfl ?_
          refine pm_R_get pm_M66 (pc' := 9) (v := .ref 17) rfl rfl T.e16 (by decide) (T.lt (by decide)) rfl rfl ?_
          refine pm_R_get pm_M66 (pc' := 12) (v := .ref 23) rfl rfl T.e17 (by decide) (T.lt (by decide)) rfl rfl ?_
          refine pm_R_op pm_M66 (pc' := 13) (st' := [.int 1, .ref 23, .int a2]) rfl rfl rfl ?_
          refine pm_R_iald pm_M66 (pc' := 14) (v := z24) rfl e28 (T.lt (by decide)) rfl ez25 rfl ?_
          refine pm_R_icmp pm_M66 (t := 21) (pc' := 17) rfl rfl rfl (fun c45 => ?_) (fun c45 => ?_)
          · have B46 : sf_B 0 2 a2 := sf_ltL c45 B41 B32
            refine pm_R_lo pm_M66 (pc' := 22) rfl rfl rfl ?_
            refine pm_R_get pm_M66 (pc' := 25) (v := .ref 17) rfl rfl T.e16 (by decide) (T.lt (by decide)) rfl rfl ?_
            refine pm_R_get pm_M66 (pc' := 28) (v := .ref 20) rfl rfl T.e17 (by decide) (T.lt (by decide)) rfl rfl ?_
            refine pm_R_lo pm_M66 (pc' := 29) rfl rfl rfl ?_
            obtain ⟨l47, hx48⟩ := cl_there1 T e28 e34 ez25 c45 B46 (by decide)
            have hk49 := b35 _ _ hx48
            refine pm_R_aald pm_M66 (pc' := 30) (v := .ref l47) rfl e34 (by decide) (by decide) (by decide) (T.lt (by decide)) (sf_in B46 (by decide) (by decide)) (by rw [hx48]; rfl) rfl ?_
            refine pm_R_ret pm_M66 (r := some (.ref l47)) rfl rfl ?_
            show pm_R _ 111 19 [.ref 16, .int a0, .int a1, .int a2, .null, .ref l36, pm_no] [.ref l47] _ _
            refine pm_R_lo pm_M111 (pc' := 21) (ls' := [.ref 16, .int a0, .int a1, .int a2, .null, .ref l36, .ref l47]) (st' := []) rfl rfl rfl ?_
            refine pm_R_lo pm_M111 (pc' := 23) rfl rfl rfl ?_
            refine pm_R_br pm_M111 (pc' := 36) rfl rfl ?_
            refine pm_R_op pm_M111 (pc' := 37) (st' := [.int (-1)]) rfl rfl rfl ?_
            exact pm_R_ret pm_M111 (r := some (.int (-1))) rfl rfl (K (-1) m h T (rf_G.refl [32, 38] h) (rf_W.refl [] m) (sf_weak sf_kn1 (by decide) (by decide)))
          · have B50 : sf_B 1 2147483647 a2 := sf_leR (Int32.not_lt.mp c45) B32 B41
            refine pm_R_op pm_M66 (pc' := 18) (st' := [.null]) rfl rfl rfl ?_
            refine pm_R_br pm_M66 (pc' := 30) rfl rfl ?_
            refine pm_R_ret pm_M66 (r := some (.null)) rfl rfl ?_
            show pm_R _ 111 19 [.ref 16, .int a0, .int a1, .int a2, .null, .ref l36, pm_no] [.null] _ _
            refine pm_R_lo pm_M111 (pc' := 21) (ls' := [.ref 16, .int a0, .int a1, .int a2, .null, .ref l36, .null]) (st' := []) rfl rfl rfl ?_
            refine pm_R_lo pm_M111 (pc' := 23) rfl rfl rfl ?_
            refine pm_R_br pm_M111 (pc' := 36) rfl rfl ?_
            refine pm_R_op pm_M111 (pc' := 37) (st' := [.int (-1)]) rfl rfl rfl ?_
            exact pm_R_ret pm_M111 (r := some (.int (-1))) rfl rfl (K (-1) m h T (rf_G.refl [32, 38] h) (rf_W.refl [] m) (sf_weak sf_kn1 (by decide) (by decide)))
      · skip
        refine pm_R_op pm_M66 (pc' := 18) (st' := [.null]) rfl rfl rfl ?_
        refine pm_R_br pm_M66 (pc' := 30) rfl rfl ?_
        refine pm_R_ret pm_M66 (r := some (.null)) rfl rfl ?_
        show pm_R _ 111 12 [.ref 16, .int a0, .int a1, .int a2, .null, pm_no, pm_no] [.null] _ _
        refine pm_R_lo pm_M111 (pc' := 14) (ls' := [.ref 16, .int a0, .int a1, .int a2, .null, .null, pm_no]) (st' := []) rfl rfl rfl ?_
        refine pm_R_lo pm_M111 (pc' := 15) rfl rfl rfl ?_
        refine pm_R_lo pm_M111 (pc' := 16) rfl rfl rfl ?_
        refine pm_R_cv pm_M111 (pc' := 19) (a := 16) (ra := [.int a2]) (rest := []) (ls' := [.ref 16, .int a2]) rfl rfl (Or.inl rfl) pm_M66 T.e16 rfl (by decide) (T.lt (by decide)) rfl rfl (Nat.le_of_ble_eq_true rfl) rfl rfl ?_
        refine pm_R_lo pm_M66 (pc' := 1) rfl rfl rfl ?_
        refine pm_R_ifc pm_M66 (t := 17) (pc' := 4) rfl rfl rfl (fun c51 => ?_) (fun c51 => ?_)
        · have B52 : sf_B (-2147483648) (-1) a2 := sf_ltL c51 (sf_any a2) sf_k0
          refine pm_R_op pm_M66 (pc' := 18) (st' := [.null]) rfl rfl rfl ?_
          refine pm_R_br pm_M66 (pc' := 30) rfl rfl ?_
          refine pm_R_ret pm_M66 (r := some (.null)) rfl rfl ?_
          show pm_R _ 111 19 [.ref 16, .int a0, .int a1, .int a2, .null, .null, pm_no] [.null] _ _
          refine pm_R_lo pm_M111 (pc' := 21) (ls' := [.ref 16, .int a0, .int a1, .int a2, .null, .null, .null]) (st' := []) rfl rfl rfl ?_
          refine pm_R_lo pm_M111 (pc' := 23) rfl rfl rfl ?_
          refine pm_R_br pm_M111 (pc' := 36) rfl rfl ?_
          refine pm_R_op pm_M111 (pc' := 37) (st' := [.int (-1)]) rfl rfl rfl ?_
          exact pm_R_ret pm_M111 (r := some (.int (-1))) rfl rfl (K (-1) m h T (rf_G.refl [32, 38] h) (rf_W.refl [] m) (sf_weak sf_kn1 (by decide) (by decide)))
        · have B53 : sf_B 0 2147483647 a2 := sf_leR (Int32.not_lt.mp c51) sf_k0 (sf_any a2)
          refine pm_R_lo pm_M66 (pc' := 5) rfl rfl rfl ?_
          refine pm_R_lo pm_M66 (pc' := 6) rfl rfl rfl ?_
          refine pm_R_get pm_M66 (pc' := 9) (v := .ref 17) rfl rfl T.e16 (by decide) (T.lt (by decide)) rfl rfl ?_
          refine pm_R_get pm_M66 (pc' := 12) (v := .ref 23) rfl rfl T.e17 (by decide) (T.lt (by decide)) rfl rfl ?_
          refine pm_R_op pm_M66 (pc' := 13) (st' := [.int 1, .ref 23, .int a2]) rfl rfl rfl ?_
          refine pm_R_iald pm_M66 (pc' := 14) (v := z24) rfl e28 (T.lt (by decide)) rfl ez25 rfl ?_
          refine pm_R_icmp pm_M66 (t := 21) (pc' := 17) rfl rfl rfl (fun c57 => ?_) (fun c57 => ?_)
          · have B58 : sf_B 0 2 a2 := sf_ltL c57 B53 B26
            have B59 : sf_B 1 3 z24 := sf_ltR c57 B53 B26
            refine pm_R_lo pm_M66 (pc' := 22) rfl rfl rfl ?_
            refine pm_R_get pm_M66 (pc' := 25) (v := .ref 17) rfl rfl T.e16 (by decide) (T.lt (by decide)) rfl rfl ?_
            refine pm_R_get pm_M66 (pc' := 28) (v := .ref 20) rfl rfl T.e17 (by decide) (T.lt (by decide)) rfl rfl ?_
            refine pm_R_lo pm_M66 (pc' := 29) rfl rfl rfl ?_
            obtain ⟨f60, e61, b62⟩ := T.C 20 (by decide) (by decide)
            obtain ⟨l63, hx64⟩ := cl_there1 T e28 e61 ez25 c57 B58 (by decide)
            have hk65 := b62 _ _ hx64
            refine pm_R_aald pm_M66 (pc' := 30) (v := .ref l63) rfl e61 (by decide) (by decide) (by decide) (T.lt (by decide)) (sf_in B58 (by decide) (by decide)) (by rw [hx64]; rfl) rfl ?_
            refine pm_R_ret pm_M66 (r := some (.ref l63)) rfl rfl ?_
            show pm_R _ 111 19 [.ref 16, .int a0, .int a1, .int a2, .null, .null, pm_no] [.ref l63] _ _
            refine pm_R_lo pm_M111 (pc' := 21) (ls' := [.ref 16, .int a0, .int a1, .int a2, .null, .null, .ref l63]) (st' := []) rfl rfl rfl ?_
            refine pm_R_lo pm_M111 (pc' := 23) rfl rfl rfl ?_
            refine pm_R_br pm_M111 (pc' := 36) rfl rfl ?_
            refine pm_R_op pm_M111 (pc' := 37) (st' := [.int (-1)]) rfl rfl rfl ?_
            exact pm_R_ret pm_M111 (r := some (.int (-1))) rfl rfl (K (-1) m h T (rf_G.refl [32, 38] h) (rf_W.refl [] m) (sf_weak sf_kn1 (by decide) (by decide)))
          · skip
            refine pm_R_op pm_M66 (pc' := 18) (st' := [.null]) rfl rfl rfl ?_
            refine pm_R_br pm_M66 (pc' := 30) rfl rfl ?_
            refine pm_R_ret pm_M66 (r := some (.null)) rfl rfl ?_
            show pm_R _ 111 19 [.ref 16, .int a0, .int a1, .int a2, .null, .null, pm_no] [.null] _ _
            refine pm_R_lo pm_M111 (pc' := 21) (ls' := [.ref 16, .int a0, .int a1, .int a2, .null, .null, .null]) (st' := []) rfl rfl rfl ?_
            refine pm_R_lo pm_M111 (pc' := 23) rfl rfl rfl ?_
            refine pm_R_br pm_M111 (pc' := 36) rfl rfl ?_
            refine pm_R_op pm_M111 (pc' := 37) (st' := [.int (-1)]) rfl rfl rfl ?_
            exact pm_R_ret pm_M111 (r := some (.int (-1))) rfl rfl (K (-1) m h T (rf_G.refl [32, 38] h) (rf_W.refl [] m) (sf_weak sf_kn1 (by decide) (by decide)))
  · have B66 : sf_B 0 2147483647 a0 := sf_leR (Int32.not_lt.mp c1) sf_k0 (sf_any a0)
    refine pm_R_lo pm_M62 (pc' := 5) rfl rfl rfl ?_
    refine pm_R_lo pm_M62 (pc' := 6) rfl rfl rfl ?_
    refine pm_R_get pm_M62 (pc' := 9) (v := .ref 17) rfl rfl T.e16 (by decide) (T.lt (by decide)) rfl rfl ?_
    refine pm_R_get pm_M62 (pc' := 12) (v := .ref 23) rfl rfl T.e17 (by decide) (T.lt (by decide)) rfl rfl ?_
    refine pm_R_op pm_M62 (pc' := 13) (st' := [.int 0, .ref 23, .int a0]) rfl rfl rfl ?_
    obtain ⟨f70, e71, b72⟩ := T.C 23 (by decide) (by decide)
    obtain ⟨z67, ez68⟩ : ∃ y, f70 (Int32.toNatClampNeg 0) = y := ⟨_, rfl⟩
    have B69 : sf_B 0 2 z67 := ez68 ▸ (b72 0)
    refine pm_R_iald pm_M62 (pc' := 14) (v := z67) rfl e71 (T.lt (by decide)) rfl ez68 rfl ?_
    refine pm_R_icmp pm_M62 (t := 21) (pc' := 17) rfl rfl rfl (fun c73 => ?_) (fun c73 => ?_)
    · have B74 : sf_B 0 1 a0 := sf_ltL c73 B66 B69
      have B75 : sf_B 1 2 z67 := sf_ltR c73 B66 B69
      refine pm_R_lo pm_M62 (pc' := 22) rfl rfl rfl ?_
      refine pm_R_get pm_M62 (pc' := 25) (v := .ref 17) rfl rfl T.e16 (by decide) (T.lt (by decide)) rfl rfl ?_
      refine pm_R_get pm_M62 (pc' := 28) (v := .ref 19) rfl rfl T.e17 (by decide) (T.lt (by decide)) rfl rfl ?_
      refine pm_R_lo pm_M62 (pc' := 29) rfl rfl rfl ?_
      obtain ⟨f76, e77, b78⟩ := T.C 19 (by decide) (by decide)
      obtain ⟨l79, hx80⟩ := cl_there0 T e71 e77 ez68 c73 B74 (by decide)
      have hk81 := b78 _ _ hx80
      refine pm_R_aald pm_M62 (pc' := 30) (v := .ref l79) rfl e77 (by decide) (by decide) (by decide) (T.lt (by decide)) (sf_in B74 (by decide) (by decide)) (by rw [hx80]; rfl) rfl ?_
      refine pm_R_ret pm_M62 (r := some (.ref l79)) rfl rfl ?_
      show pm_R _ 111 5 [.ref 16, .int a0, .int a1, .int a2, pm_no, pm_no, pm_no] [.ref l79] _ _
      refine pm_R_lo pm_M111 (pc' := 7) (ls' := [.ref 16, .int a0, .int a1, .int a2, .ref l79, pm_no, pm_no]) (st' := []) rfl rfl rfl ?_
      refine pm_R_lo pm_M111 (pc' := 8) rfl rfl rfl ?_
      refine pm_R_lo pm_M111 (pc' := 9) rfl rfl rfl ?_
      refine pm_R_cv pm_M111 (pc' := 12) (a := 16) (ra := [.int a1]) (rest := []) (ls' := [.ref 16, .int a1]) rfl rfl (Or.inl rfl) pm_M66 T.e16 rfl (by decide) (T.lt (by decide)) rfl rfl (Nat.le_of_ble_eq_true rfl) rfl rfl ?_
      refine pm_R_lo pm_M66 (pc' := 1) rfl rfl rfl ?_
      refine pm_R_ifc pm_M66 (t := 17) (pc' := 4) rfl rfl rfl (fun c82 => ?_) (fun c82 => ?_)
      · have B83 : sf_B (-2147483648) (-1) a1 := sf_ltL c82 (sf_any a1) sf_k0
        refine pm_R_op pm_M66 (pc' := 18) (st' := [.null]) rfl rfl rfl ?_
        refine pm_R_br pm_M66 (pc' := 30) rfl rfl ?_
        refine pm_R_ret pm_M66 (r := some (.null)) rfl rfl ?_
        show pm_R _ 111 12 [.ref 16, .int a0, .int a1, .int a2, .ref l79, pm_no, pm_no] [.null] _ _
        refine pm_R_lo pm_M111 (pc' := 14) (ls' := [.ref 16, .int a0, .int a1, .int a2, .ref l79, .null, pm_no]) (st' := []) rfl rfl rfl ?_
        refine pm_R_lo pm_M111 (pc' := 15) rfl rfl rfl ?_
        refine pm_R_lo pm_M111 (pc' := 16) rfl rfl rfl ?_
        refine pm_R_cv pm_M111 (pc' := 19) (a := 16) (ra := [.int a2]) (rest := []) (ls' := [.ref 16, .int a2]) rfl rfl (Or.inl rfl) pm_M66 T.e16 rfl (by decide) (T.lt (by decide)) rfl rfl (Nat.le_of_ble_eq_true rfl) rfl rfl ?_
        refine pm_R_lo pm_M66 (pc' := 1) rfl rfl rfl ?_
        refine pm_R_ifc pm_M66 (t := 17) (pc' := 4) rfl rfl rfl (fun c84 => ?_) (fun c84 => ?_)
        · have B85 : sf_B (-2147483648) (-1) a2 := sf_ltL c84 (sf_any a2) sf_k0
          refine pm_R_op pm_M66 (pc' := 18) (st' := [.null]) rfl rfl rfl ?_
          refine pm_R_br pm_M66 (pc' := 30) rfl rfl ?_
          refine pm_R_ret pm_M66 (r := some (.null)) rfl rfl ?_
          show pm_R _ 111 19 [.ref 16, .int a0, .int a1, .int a2, .ref l79, .null, pm_no] [.null] _ _
          refine pm_R_lo pm_M111 (pc' := 21) (ls' := [.ref 16, .int a0, .int a1, .int a2, .ref l79, .null, .null]) (st' := []) rfl rfl rfl ?_
          refine pm_R_lo pm_M111 (pc' := 23) rfl rfl rfl ?_
          refine pm_R_br pm_M111 (pc' := 26) rfl rfl ?_
          refine pm_R_lo pm_M111 (pc' := 28) rfl rfl rfl ?_
          refine pm_R_br pm_M111 (pc' := 36) rfl rfl ?_
          refine pm_R_op pm_M111 (pc' := 37) (st' := [.int (-1)]) rfl rfl rfl ?_
          exact pm_R_ret pm_M111 (r := some (.int (-1))) rfl rfl (K (-1) m h T (rf_G.refl [32, 38] h) (rf_W.refl [] m) (sf_weak sf_kn1 (by decide) (by decide)))
        · have B86 : sf_B 0 2147483647 a2 := sf_leR (Int32.not_lt.mp c84) sf_k0 (sf_any a2)
          refine pm_R_lo pm_M66 (pc' := 5) rfl rfl rfl ?_
          refine pm_R_lo pm_M66 (pc' := 6) rfl rfl rfl ?_
          refine pm_R_get pm_M66 (pc' := 9) (v := .ref 17) rfl rfl T.e16 (by decide) (T.lt (by decide)) rfl rfl ?_
          refine pm_R_get pm_M66 (pc' := 12) (v := .ref 23) rfl rfl T.e17 (by decide) (T.lt (by decide)) rfl rfl ?_
          refine pm_R_op pm_M66 (pc' := 13) (st' := [.int 1, .ref 23, .int a2]) rfl rfl rfl ?_
          obtain ⟨z87, ez88⟩ : ∃ y, f70 (Int32.toNatClampNeg 1) = y := ⟨_, rfl⟩
          have B89 : sf_B 0 3 z87 := ez88 ▸ (b72 1)
          refine pm_R_iald pm_M66 (pc' := 14) (v := z87) rfl e71 (T.lt (by decide)) rfl ez88 rfl ?_
          refine pm_R_icmp pm_M66 (t := 21) (pc' := 17) rfl rfl rfl (fun c90 => ?_) (fun c90 => ?_)
          · have B91 : sf_B 0 2 a2 := sf_ltL c90 B86 B89
            have B92 : sf_B 1 3 z87 := sf_ltR c90 B86 B89
            refine pm_R_lo pm_M66 (pc' := 22) rfl rfl rfl ?_
            refine pm_R_get pm_M66 (pc' := 25) (v := .ref 17) rfl rfl T.e16 (by decide) (T.lt (by decide)) rfl rfl ?_
            refine pm_R_get pm_M66 (pc' := 28) (v := .ref 20) rfl rfl T.e17 (by decide) (T.lt (by decide)) rfl rfl ?_
            refine pm_R_lo pm_M66 (pc' := 29) rfl rfl rfl ?_
            obtain ⟨f93, e94, b95⟩ := T.C 20 (by decide) (by decide)
            obtain ⟨l96, hx97⟩ := cl_there1 T e71 e94 ez88 c90 B91 (by decide)
            have hk98 := b95 _ _ hx97
            refine pm_R_aald pm_M66 (pc' := 30) (v := .ref l96) rfl e94 (by decide) (by decide) (by decide) (T.lt (by decide)) (sf_in B91 (by decide) (by decide)) (by rw [hx97]; rfl) rfl ?_
            refine pm_R_ret pm_M66 (r := some (.ref l96)) rfl rfl ?_
            show pm_R _ 111 19 [.ref 16, .int a0, .int a1, .int a2, .ref l79, .null, pm_no] [.ref l96] _ _
            refine pm_R_lo pm_M111 (pc' := 21) (ls' := [.ref 16, .int a0, .int a1, .int a2, .ref l79, .null, .ref l96]) (st' := []) rfl rfl rfl ?_
            refine pm_R_lo pm_M111 (pc' := 23) rfl rfl rfl ?_
            refine pm_R_br pm_M111 (pc' := 26) rfl rfl ?_
            refine pm_R_lo pm_M111 (pc' := 28) rfl rfl rfl ?_
            refine pm_R_br pm_M111 (pc' := 36) rfl rfl ?_
            refine pm_R_op pm_M111 (pc' := 37) (st' := [.int (-1)]) rfl rfl rfl ?_
            exact pm_R_ret pm_M111 (r := some (.int (-1))) rfl rfl (K (-1) m h T (rf_G.refl [32, 38] h) (rf_W.refl [] m) (sf_weak sf_kn1 (by decide) (by decide)))
          · skip
            refine pm_R_op pm_M66 (pc' := 18) (st' := [.null]) rfl rfl rfl ?_
            refine pm_R_br pm_M66 (pc' := 30) rfl rfl ?_
            refine pm_R_ret pm_M66 (r := some (.null)) rfl rfl ?_
            show pm_R _ 111 19 [.ref 16, .int a0, .int a1, .int a2, .ref l79, .null, pm_no] [.null] _ _
            refine pm_R_lo pm_M111 (pc' := 21) (ls' := [.ref 16, .int a0, .int a1, .int a2, .ref l79, .null, .null]) (st' := []) rfl rfl rfl ?_
            refine pm_R_lo pm_M111 (pc' := 23) rfl rfl rfl ?_
            refine pm_R_br pm_M111 (pc' := 26) rfl rfl ?_
            refine pm_R_lo pm_M111 (pc' := 28) rfl rfl rfl ?_
            refine pm_R_br pm_M111 (pc' := 36) rfl rfl ?_
            refine pm_R_op pm_M111 (pc' := 37) (st' := [.int (-1)]) rfl rfl rfl ?_
            exact pm_R_ret pm_M111 (r := some (.int (-1))) rfl rfl (K (-1) m h T (rf_G.refl [32, 38] h) (rf_W.refl [] m) (sf_weak sf_kn1 (by decide) (by decide)))
      · have B99 : sf_B 0 2147483647 a1 := sf_leR (Int32.not_lt.mp c82) sf_k0 (sf_any a1)
        refine pm_R_lo pm_M66 (pc' := 5) rfl rfl rfl ?_
        refine pm_R_lo pm_M66 (pc' := 6) rfl rfl rfl ?_
        refine pm_R_get pm_M66 (pc' := 9) (v := .ref 17) rfl rfl T.e16 (by decide) (T.lt (by decide)) rfl rfl ?_
        refine pm_R_get pm_M66 (pc' := 12) (v := .ref 23) rfl rfl T.e17 (by decide) (T.lt (by decide)) rfl rfl ?_
        refine pm_R_op pm_M66 (pc' := 13) (st' := [.int 1, .ref 23, .int a1]) rfl rfl rfl ?_
        obtain ⟨z100, ez101⟩ : ∃ y, f70 (Int32.toNatClampNeg 1) = y := ⟨_, rfl⟩
        have B102 : sf_B 0 3 z100 := ez101 ▸ (b72 1)
        refine pm_R_iald pm_M66 (pc' := 14) (v := z100) rfl e71 (T.lt (by decide)) rfl ez101 rfl ?_
        refine pm_R_icmp pm_M66 (t := 21) (pc' := 17) rfl rfl rfl (fun c103 => ?_) (fun c103 => ?_)
        · have B104 : sf_B 0 2 a1 := sf_ltL c103 B99 B102
          have B105 : sf_B 1 3 z100 := sf_ltR c103 B99 B102
          refine pm_R_lo pm_M66 (pc' := 22) rfl rfl rfl ?_
          refine pm_R_get pm_M66 (pc' := 25) (v := .ref 17) rfl rfl T.e16 (by decide) (T.lt (by decide)) rfl rfl ?_
          refine pm_R_get pm_M66 (pc' := 28) (v := .ref 20) rfl rfl T.e17 (by decide) (T.lt (by decide)) rfl rfl ?_
          refine pm_R_lo pm_M66 (pc' := 29) rfl rfl rfl ?_
          obtain ⟨f106, e107, b108⟩ := T.C 20 (by decide) (by decide)
          obtain ⟨l109, hx110⟩ := cl_there1 T e71 e107 ez101 c103 B104 (by decide)
          have hk111 := b108 _ _ hx110
          refine pm_R_aald pm_M66 (pc' := 30) (v := .ref l109) rfl e107 (by decide) (by decide) (by decide) (T.lt (by decide)) (sf_in B104 (by decide) (by decide)) (by rw [hx110]; rfl) rfl ?_
          refine pm_R_ret pm_M66 (r := some (.ref l109)) rfl rfl ?_
          show pm_R _ 111 12 [.ref 16, .int a0, .int a1, .int a2, .ref l79, pm_no, pm_no] [.ref l109] _ _
          refine pm_R_lo pm_M111 (pc' := 14) (ls' := [.ref 16, .int a0, .int a1, .int a2, .ref l79, .ref l109, pm_no]) (st' := []) rfl rfl rfl ?_
          refine pm_R_lo pm_M111 (pc' := 15) rfl rfl rfl ?_
          refine pm_R_lo pm_M111 (pc' := 16) rfl rfl rfl ?_
          refine pm_R_cv pm_M111 (pc' := 19) (a := 16) (ra := [.int a2]) (rest := []) (ls' := [.ref 16, .int a2]) rfl rfl (Or.inl rfl) pm_M66 T.e16 rfl (by decide) (T.lt (by decide)) rfl rfl (Nat.le_of_ble_eq_true rfl) rfl rfl ?_
          refine pm_R_lo pm_M66 (pc' := 1) rfl rfl rfl ?_
          refine pm_R_ifc pm_M66 (t := 17) (pc' := 4) rfl rfl rfl (fun c112 => ?_) (fun c112 => ?_)
          · have B113 : sf_B (-2147483648) (-1) a2 := sf_ltL c112 (sf_any a2) sf_k0
            refine pm_R_op pm_M66 (pc' := 18) (st' := [.null]) rfl rfl rfl ?_
            refine pm_R_br pm_M66 (pc' := 30) rfl rfl ?_
            refine pm_R_ret pm_M66 (r := some (.null)) rfl rfl ?_
            show pm_R _ 111 19 [.ref 16, .int a0, .int a1, .int a2, .ref l79, .ref l109, pm_no] [.null] _ _
            refine pm_R_lo pm_M111 (pc' := 21) (ls' := [.ref 16, .int a0, .int a1, .int a2, .ref l79, .ref l109, .null]) (st' := []) rfl rfl rfl ?_
            refine pm_R_lo pm_M111 (pc' := 23) rfl rfl rfl ?_
            refine pm_R_br pm_M111 (pc' := 26) rfl rfl ?_
            refine pm_R_lo pm_M111 (pc' := 28) rfl rfl rfl ?_
            refine pm_R_br pm_M111 (pc' := 31) rfl rfl ?_
            refine pm_R_lo pm_M111 (pc' := 33) rfl rfl rfl ?_
            refine pm_R_br pm_M111 (pc' := 36) rfl rfl ?_
            refine pm_R_op pm_M111 (pc' := 37) (st' := [.int (-1)]) rfl rfl rfl ?_
            exact pm_R_ret pm_M111 (r := some (.int (-1))) rfl rfl (K (-1) m h T (rf_G.refl [32, 38] h) (rf_W.refl [] m) (sf_weak sf_kn1 (by decide) (by decide)))
          · have B114 : sf_B 0 2147483647 a2 := sf_leR (Int32.not_lt.mp c112) sf_k0 (sf_any a2)
            refine pm_R_lo pm_M66 (pc' := 5) rfl rfl rfl ?_
            refine pm_R_lo pm_M66 (pc' := 6) rfl rfl rfl ?_
            refine pm_R_get pm_M66 (pc' := 9) (v := .ref 17) rfl rfl T.e16 (by decide) (T.lt (by decide)) rfl rfl ?_
            refine pm_R_get pm_M66 (pc' := 12) (v := .ref 23) rfl rfl T.e17 (by decide) (T.lt (by decide)) rfl rfl ?_
            refine pm_R_op pm_M66 (pc' := 13) (st' := [.int 1, .ref 23, .int a2]) rfl rfl rfl ?_
            refine pm_R_iald pm_M66 (pc' := 14) (v := z100) rfl e71 (T.lt (by decide)) rfl ez101 rfl ?_
            refine pm_R_icmp pm_M66 (t := 21) (pc' := 17) rfl rfl rfl (fun c118 => ?_) (fun c118 => ?_)
            · have B119 : sf_B 0 2 a2 := sf_ltL c118 B114 B105
              refine pm_R_lo pm_M66 (pc' := 22) rfl rfl rfl ?_
              refine pm_R_get pm_M66 (pc' := 25) (v := .ref 17) rfl rfl T.e16 (by decide) (T.lt (by decide)) rfl rfl ?_
              refine pm_R_get pm_M66 (pc' := 28) (v := .ref 20) rfl rfl T.e17 (by decide) (T.lt (by decide)) rfl rfl ?_
              refine pm_R_lo pm_M66 (pc' := 29) rfl rfl rfl ?_
              obtain ⟨l120, hx121⟩ := cl_there1 T e71 e107 ez101 c118 B119 (by decide)
              have hk122 := b108 _ _ hx121
              refine pm_R_aald pm_M66 (pc' := 30) (v := .ref l120) rfl e107 (by decide) (by decide) (by decide) (T.lt (by decide)) (sf_in B119 (by decide) (by decide)) (by rw [hx121]; rfl) rfl ?_
              refine pm_R_ret pm_M66 (r := some (.ref l120)) rfl rfl ?_
              show pm_R _ 111 19 [.ref 16, .int a0, .int a1, .int a2, .ref l79, .ref l109, pm_no] [.ref l120] _ _
              refine pm_R_lo pm_M111 (pc' := 21) (ls' := [.ref 16, .int a0, .int a1, .int a2, .ref l79, .ref l109, .ref l120]) (st' := []) rfl rfl rfl ?_
              refine pm_R_lo pm_M111 (pc' := 23) rfl rfl rfl ?_
              refine pm_R_br pm_M111 (pc' := 26) rfl rfl ?_
              refine pm_R_lo pm_M111 (pc' := 28) rfl rfl rfl ?_
              refine pm_R_br pm_M111 (pc' := 31) rfl rfl ?_
              refine pm_R_lo pm_M111 (pc' := 33) rfl rfl rfl ?_
              refine pm_R_br pm_M111 (pc' := 38) rfl rfl ?_
              refine pm_R_lo pm_M111 (pc' := 39) rfl rfl rfl ?_
              refine pm_R_lo pm_M111 (pc' := 41) rfl rfl rfl ?_
              refine pm_R_lo pm_M111 (pc' := 43) rfl rfl rfl ?_
              refine pm_R_op pm_M111 (pc' := 44) (st' := [.int 0, .ref l109, .ref l79, .ref 16]) rfl rfl rfl ?_
              refine pm_R_cv pm_M111 (pc' := 47) (a := 16) (ra := [.int 0, .ref l109, .ref l79]) (rest := []) (ls' := [.ref 16, .ref l79, .ref l109, .int 0]) rfl rfl (Or.inl rfl) pm_M98 T.e16 rfl (by decide) (T.lt (by decide)) rfl rfl (Nat.le_of_ble_eq_true rfl) rfl rfl ?_
              refine cl_c98 (d := d + 0) G T hk81 hk111 (sf_weak sf_k0 (by decide) (by decide)) (fun r123 m125 h126 T127 F128 W129 => ?_)
              have F130 := (rf_G.refl [32, 38] h).trans F128 (by decide)
              have W131 : rf_W [] m m125 := (rf_W.refl [] m).trans W129 (by decide)
              show pm_R _ 111 47 [.ref 16, .int a0, .int a1, .int a2, .ref l79, .ref l109, .ref l120] [.long r123] _ _
              refine pm_R_lo pm_M111 (pc' := 48) rfl rfl rfl ?_
              refine pm_R_lo pm_M111 (pc' := 50) rfl rfl rfl ?_
              refine pm_R_lo pm_M111 (pc' := 52) rfl rfl rfl ?_
              refine pm_R_op pm_M111 (pc' := 53) (st' := [.int 0, .ref l120, .ref l79, .ref 16, .long r123]) rfl rfl rfl ?_
              refine pm_R_cv pm_M111 (pc' := 56) (a := 16) (ra := [.int 0, .ref l120, .ref l79]) (rest := [.long r123]) (ls' := [.ref 16, .ref l79, .ref l120, .int 0]) rfl rfl (Or.inl rfl) pm_M98 T127.e16 rfl (by decide) (T127.lt (by decide)) rfl rfl (Nat.le_of_ble_eq_true rfl) rfl rfl ?_
              refine cl_c98 (d := d + 0) G T127 hk81 hk122 (sf_weak sf_k0 (by decide) (by decide)) (fun r132 m134 h135 T136 F137 W138 => ?_)
              have F139 := F130.trans F137 (by decide)
              have W140 : rf_W [] m m134 := W131.trans W138 (by decide)
              show pm_R _ 111 56 [.ref 16, .int a0, .int a1, .int a2, .ref l79, .ref l109, .ref l120] [.long r132, .long r123] _ _
              refine sf_R_lany pm_M111 (pc' := 57) (st := []) rfl rfl rfl (fun z141 => ?_)
              refine pm_R_cs pm_M111 (pc' := 60) (ra := [.long z141]) (rest := []) (ls' := [.long z141, pm_no]) rfl rfl (Or.inl rfl) pm_M108 rfl rfl (Nat.le_of_ble_eq_true rfl) rfl rfl ?_
              refine pm_R_lo pm_M108 (pc' := 1) rfl rfl rfl ?_
              refine pm_R_lo pm_M108 (pc' := 2) rfl rfl rfl ?_
              refine pm_R_op pm_M108 (pc' := 3) (st' := [.int 1, .long z141, .long z141]) rfl rfl rfl ?_
              refine sf_R_lany pm_M108 (pc' := 4) (st := [.long z141]) rfl rfl rfl (fun z142 => ?_)
              refine pm_R_ldc2 pm_M108 (pc' := 7) rfl rfl rfl ?_
              refine sf_R_lany pm_M108 (pc' := 8) (st := [.long z141]) rfl rfl rfl (fun z143 => ?_)
              refine sf_R_lany pm_M108 (pc' := 9) (st := []) rfl rfl rfl (fun z144 => ?_)
              refine pm_R_lo pm_M108 (pc' := 10) (ls' := [.long z144, pm_no]) (st' := []) rfl rfl rfl ?_
              refine pm_R_lo pm_M108 (pc' := 11) rfl rfl rfl ?_
              refine pm_R_ldc2 pm_M108 (pc' := 14) rfl rfl rfl ?_
              refine sf_R_lany pm_M108 (pc' := 15) (st := []) rfl rfl rfl (fun z145 => ?_)
              refine pm_R_lo pm_M108 (pc' := 16) rfl rfl rfl ?_
              refine pm_R_op pm_M108 (pc' := 17) (st' := [.int 2, .long z144, .long z145]) rfl rfl rfl ?_
              refine sf_R_lany pm_M108 (pc' := 18) (st := [.long z145]) rfl rfl rfl (fun z146 => ?_)
              refine pm_R_ldc2 pm_M108 (pc' := 21) rfl rfl rfl ?_
              refine sf_R_lany pm_M108 (pc' := 22) (st := [.long z145]) rfl rfl rfl (fun z147 => ?_)
              refine sf_R_lany pm_M108 (pc' := 23) (st := []) rfl rfl rfl (fun z148 => ?_)
              refine pm_R_lo pm_M108 (pc' := 24) (ls' := [.long z148, pm_no]) (st' := []) rfl rfl rfl ?_
              refine pm_R_lo pm_M108 (pc' := 25) rfl rfl rfl ?_
              refine pm_R_lo pm_M108 (pc' := 26) rfl rfl rfl ?_
              refine pm_R_op pm_M108 (pc' := 27) (st' := [.int 4, .long z148, .long z148]) rfl rfl rfl ?_
              refine sf_R_lany pm_M108 (pc' := 28) (st := [.long z148]) rfl rfl rfl (fun z149 => ?_)
              refine sf_R_lany pm_M108 (pc' := 29) (st := []) rfl rfl rfl (fun z150 => ?_)
              refine pm_R_ldc2 pm_M108 (pc' := 32) rfl rfl rfl ?_
              refine sf_R_lany pm_M108 (pc' := 33) (st := []) rfl rfl rfl (fun z151 => ?_)
              refine pm_R_lo pm_M108 (pc' := 34) (ls' := [.long z151, pm_no]) (st' := []) rfl rfl rfl ?_
              refine pm_R_lo pm_M108 (pc' := 35) rfl rfl rfl ?_
              refine pm_R_lo pm_M108 (pc' := 36) rfl rfl rfl ?_
              refine pm_R_op pm_M108 (pc' := 38) (st' := [.int 8, .long z151, .long z151]) rfl rfl rfl ?_
              refine sf_R_lany pm_M108 (pc' := 39) (st := [.long z151]) rfl rfl rfl (fun z152 => ?_)
              refine sf_R_lany pm_M108 (pc' := 40) (st := []) rfl rfl rfl (fun z153 => ?_)
              refine pm_R_lo pm_M108 (pc' := 41) (ls' := [.long z153, pm_no]) (st' := []) rfl rfl rfl ?_
              refine pm_R_lo pm_M108 (pc' := 42) rfl rfl rfl ?_
              refine pm_R_lo pm_M108 (pc' := 43) rfl rfl rfl ?_
              refine pm_R_op pm_M108 (pc' := 45) (st' := [.int 16, .long z153, .long z153]) rfl rfl rfl ?_
              refine sf_R_lany pm_M108 (pc' := 46) (st := [.long z153]) rfl rfl rfl (fun z154 => ?_)
              refine sf_R_lany pm_M108 (pc' := 47) (st := []) rfl rfl rfl (fun z155 => ?_)
              refine pm_R_lo pm_M108 (pc' := 48) (ls' := [.long z155, pm_no]) (st' := []) rfl rfl rfl ?_
              refine pm_R_lo pm_M108 (pc' := 49) rfl rfl rfl ?_
              refine pm_R_lo pm_M108 (pc' := 50) rfl rfl rfl ?_
              refine pm_R_op pm_M108 (pc' := 52) (st' := [.int 32, .long z155, .long z155]) rfl rfl rfl ?_
              refine sf_R_lany pm_M108 (pc' := 53) (st := [.long z155]) rfl rfl rfl (fun z156 => ?_)
              refine sf_R_lany pm_M108 (pc' := 54) (st := []) rfl rfl rfl (fun z157 => ?_)
              refine pm_R_lo pm_M108 (pc' := 55) (ls' := [.long z157, pm_no]) (st' := []) rfl rfl rfl ?_
              refine pm_R_lo pm_M108 (pc' := 56) rfl rfl rfl ?_
              refine sf_R_iany pm_M108 (pc' := 57) (st := []) rfl rfl rfl (fun z158 => ?_)
              refine pm_R_op pm_M108 (pc' := 59) (st' := [.int 127, .int z158]) rfl rfl rfl ?_
              refine sf_R_iandE pm_M108 (pc' := 60) rfl rfl sf_k127 (by decide) (fun z159 e160 B161 => ?_)
              refine pm_R_ret pm_M108 (r := some (.int z159)) rfl (pm_ret_i _) ?_
              show pm_R _ 111 60 [.ref 16, .int a0, .int a1, .int a2, .ref l79, .ref l109, .ref l120] [.int z159] _ _
              exact pm_R_ret pm_M111 (r := some (.int z159)) rfl (pm_ret_i _) (K z159 m134 h135 T136 F139 W140 (sf_weak B161 (by decide) (by decide)))
            · have B162 : sf_B 1 2147483647 a2 := sf_leR (Int32.not_lt.mp c118) B105 B114
              refine pm_R_op pm_M66 (pc' := 18) (st' := [.null]) rfl rfl rfl ?_
              refine pm_R_br pm_M66 (pc' := 30) rfl rfl ?_
              refine pm_R_ret pm_M66 (r := some (.null)) rfl rfl ?_
              show pm_R _ 111 19 [.ref 16, .int a0, .int a1, .int a2, .ref l79, .ref l109, pm_no] [.null] _ _
              refine pm_R_lo pm_M111 (pc' := 21) (ls' := [.ref 16, .int a0, .int a1, .int a2, .ref l79, .ref l109, .null]) (st' := []) rfl rfl rfl ?_
              refine pm_R_lo pm_M111 (pc' := 23) rfl rfl rfl ?_
              refine pm_R_br pm_M111 (pc' := 26) rfl rfl ?_
              refine pm_R_lo pm_M111 (pc' := 28) rfl rfl rfl ?_
              refine pm_R_br pm_M111 (pc' := 31) rfl rfl ?_
              refine pm_R_lo pm_M111 (pc' := 33) rfl rfl rfl ?_
              refine pm_R_br pm_M111 (pc' := 36) rfl rfl ?_
              refine pm_R_op pm_M111 (pc' := 37) (st' := [.int (-1)]) rfl rfl rfl ?_
              exact pm_R_ret pm_M111 (r := some (.int (-1))) rfl rfl (K (-1) m h T (rf_G.refl [32, 38] h) (rf_W.refl [] m) (sf_weak sf_kn1 (by decide) (by decide)))
        · skip
          refine pm_R_op pm_M66 (pc' := 18) (st' := [.null]) rfl rfl rfl ?_
          refine pm_R_br pm_M66 (pc' := 30) rfl rfl ?_
          refine pm_R_ret pm_M66 (r := some (.null)) rfl rfl ?_
          show pm_R _ 111 12 [.ref 16, .int a0, .int a1, .int a2, .ref l79, pm_no, pm_no] [.null] _ _
          refine pm_R_lo pm_M111 (pc' := 14) (ls' := [.ref 16, .int a0, .int a1, .int a2, .ref l79, .null, pm_no]) (st' := []) rfl rfl rfl ?_
          refine pm_R_lo pm_M111 (pc' := 15) rfl rfl rfl ?_
          refine pm_R_lo pm_M111 (pc' := 16) rfl rfl rfl ?_
          refine pm_R_cv pm_M111 (pc' := 19) (a := 16) (ra := [.int a2]) (rest := []) (ls' := [.ref 16, .int a2]) rfl rfl (Or.inl rfl) pm_M66 T.e16 rfl (by decide) (T.lt (by decide)) rfl rfl (Nat.le_of_ble_eq_true rfl) rfl rfl ?_
          refine pm_R_lo pm_M66 (pc' := 1) rfl rfl rfl ?_
          refine pm_R_ifc pm_M66 (t := 17) (pc' := 4) rfl rfl rfl (fun c163 => ?_) (fun c163 => ?_)
          · have B164 : sf_B (-2147483648) (-1) a2 := sf_ltL c163 (sf_any a2) sf_k0
            refine pm_R_op pm_M66 (pc' := 18) (st' := [.null]) rfl rfl rfl ?_
            refine pm_R_br pm_M66 (pc' := 30) rfl rfl ?_
            refine pm_R_ret pm_M66 (r := some (.null)) rfl rfl ?_
            show pm_R _ 111 19 [.ref 16, .int a0, .int a1, .int a2, .ref l79, .null, pm_no] [.null] _ _
            refine pm_R_lo pm_M111 (pc' := 21) (ls' := [.ref 16, .int a0, .int a1, .int a2, .ref l79, .null, .null]) (st' := []) rfl rfl rfl ?_
            refine pm_R_lo pm_M111 (pc' := 23) rfl rfl rfl ?_
            refine pm_R_br pm_M111 (pc' := 26) rfl rfl ?_
            refine pm_R_lo pm_M111 (pc' := 28) rfl rfl rfl ?_
            refine pm_R_br pm_M111 (pc' := 36) rfl rfl ?_
            refine pm_R_op pm_M111 (pc' := 37) (st' := [.int (-1)]) rfl rfl rfl ?_
            exact pm_R_ret pm_M111 (r := some (.int (-1))) rfl rfl (K (-1) m h T (rf_G.refl [32, 38] h) (rf_W.refl [] m) (sf_weak sf_kn1 (by decide) (by decide)))
          · have B165 : sf_B 0 2147483647 a2 := sf_leR (Int32.not_lt.mp c163) sf_k0 (sf_any a2)
            refine pm_R_lo pm_M66 (pc' := 5) rfl rfl rfl ?_
            refine pm_R_lo pm_M66 (pc' := 6) rfl rfl rfl ?_
            refine pm_R_get pm_M66 (pc' := 9) (v := .ref 17) rfl rfl T.e16 (by decide) (T.lt (by decide)) rfl rfl ?_
            refine pm_R_get pm_M66 (pc' := 12) (v := .ref 23) rfl rfl T.e17 (by decide) (T.lt (by decide)) rfl rfl ?_
            refine pm_R_op pm_M66 (pc' := 13) (st' := [.int 1, .ref 23, .int a2]) rfl rfl rfl ?_
            refine pm_R_iald pm_M66 (pc' := 14) (v := z100) rfl e71 (T.lt (by decide)) rfl ez101 rfl ?_
            refine pm_R_icmp pm_M66 (t := 21) (pc' := 17) rfl rfl rfl (fun c169 => ?_) (fun c169 => ?_)
            · have B170 : sf_B 0 2 a2 := sf_ltL c169 B165 B102
              have B171 : sf_B 1 3 z100 := sf_ltR c169 B165 B102
              refine pm_R_lo pm_M66 (pc' := 22) rfl rfl rfl ?_
              refine pm_R_get pm_M66 (pc' := 25) (v := .ref 17) rfl rfl T.e16 (by decide) (T.lt (by decide)) rfl rfl ?_
              refine pm_R_get pm_M66 (pc' := 28) (v := .ref 20) rfl rfl T.e17 (by decide) (T.lt (by decide)) rfl rfl ?_
              refine pm_R_lo pm_M66 (pc' := 29) rfl rfl rfl ?_
              obtain ⟨f172, e173, b174⟩ := T.C 20 (by decide) (by decide)
              obtain ⟨l175, hx176⟩ := cl_there1 T e71 e173 ez101 c169 B170 (by decide)
              have hk177 := b174 _ _ hx176
              refine pm_R_aald pm_M66 (pc' := 30) (v := .ref l175) rfl e173 (by decide) (by decide) (by decide) (T.lt (by decide)) (sf_in B170 (by decide) (by decide)) (by rw [hx176]; rfl) rfl ?_
              refine pm_R_ret pm_M66 (r := some (.ref l175)) rfl rfl ?_
              show pm_R _ 111 19 [.ref 16, .int a0, .int a1, .int a2, .ref l79, .null, pm_no] [.ref l175] _ _
              refine pm_R_lo pm_M111 (pc' := 21) (ls' := [.ref 16, .int a0, .int a1, .int a2, .ref l79, .null, .ref l175]) (st' := []) rfl rfl rfl ?_
              refine pm_R_lo pm_M111 (pc' := 23) rfl rfl rfl ?_
              refine pm_R_br pm_M111 (pc' := 26) rfl rfl ?_
              refine pm_R_lo pm_M111 (pc' := 28) rfl rfl rfl ?_
              refine pm_R_br pm_M111 (pc' := 36) rfl rfl ?_
              refine pm_R_op pm_M111 (pc' := 37) (st' := [.int (-1)]) rfl rfl rfl ?_
              exact pm_R_ret pm_M111 (r := some (.int (-1))) rfl rfl (K (-1) m h T (rf_G.refl [32, 38] h) (rf_W.refl [] m) (sf_weak sf_kn1 (by decide) (by decide)))
            · skip
              refine pm_R_op pm_M66 (pc' := 18) (st' := [.null]) rfl rfl rfl ?_
              refine pm_R_br pm_M66 (pc' := 30) rfl rfl ?_
              refine pm_R_ret pm_M66 (r := some (.null)) rfl rfl ?_
              show pm_R _ 111 19 [.ref 16, .int a0, .int a1, .int a2, .ref l79, .null, pm_no] [.null] _ _
              refine pm_R_lo pm_M111 (pc' := 21) (ls' := [.ref 16, .int a0, .int a1, .int a2, .ref l79, .null, .null]) (st' := []) rfl rfl rfl ?_
              refine pm_R_lo pm_M111 (pc' := 23) rfl rfl rfl ?_
              refine pm_R_br pm_M111 (pc' := 26) rfl rfl ?_
              refine pm_R_lo pm_M111 (pc' := 28) rfl rfl rfl ?_
              refine pm_R_br pm_M111 (pc' := 36) rfl rfl ?_
              refine pm_R_op pm_M111 (pc' := 37) (st' := [.int (-1)]) rfl rfl rfl ?_
              exact pm_R_ret pm_M111 (r := some (.int (-1))) rfl rfl (K (-1) m h T (rf_G.refl [32, 38] h) (rf_W.refl [] m) (sf_weak sf_kn1 (by decide) (by decide)))
    · skip
      refine pm_R_op pm_M62 (pc' := 18) (st' := [.null]) rfl rfl rfl ?_
      refine pm_R_br pm_M62 (pc' := 30) rfl rfl ?_
      refine pm_R_ret pm_M62 (r := some (.null)) rfl rfl ?_
      show pm_R _ 111 5 [.ref 16, .int a0, .int a1, .int a2, pm_no, pm_no, pm_no] [.null] _ _
      refine pm_R_lo pm_M111 (pc' := 7) (ls' := [.ref 16, .int a0, .int a1, .int a2, .null, pm_no, pm_no]) (st' := []) rfl rfl rfl ?_
      refine pm_R_lo pm_M111 (pc' := 8) rfl rfl rfl ?_
      refine pm_R_lo pm_M111 (pc' := 9) rfl rfl rfl ?_
      refine pm_R_cv pm_M111 (pc' := 12) (a := 16) (ra := [.int a1]) (rest := []) (ls' := [.ref 16, .int a1]) rfl rfl (Or.inl rfl) pm_M66 T.e16 rfl (by decide) (T.lt (by decide)) rfl rfl (Nat.le_of_ble_eq_true rfl) rfl rfl ?_
      refine pm_R_lo pm_M66 (pc' := 1) rfl rfl rfl ?_
      refine pm_R_ifc pm_M66 (t := 17) (pc' := 4) rfl rfl rfl (fun c178 => ?_) (fun c178 => ?_)
      · have B179 : sf_B (-2147483648) (-1) a1 := sf_ltL c178 (sf_any a1) sf_k0
        refine pm_R_op pm_M66 (pc' := 18) (st' := [.null]) rfl rfl rfl ?_
        refine pm_R_br pm_M66 (pc' := 30) rfl rfl ?_
        refine pm_R_ret pm_M66 (r := some (.null)) rfl rfl ?_
        show pm_R _ 111 12 [.ref 16, .int a0, .int a1, .int a2, .null, pm_no, pm_no] [.null] _ _
        refine pm_R_lo pm_M111 (pc' := 14) (ls' := [.ref 16, .int a0, .int a1, .int a2, .null, .null, pm_no]) (st' := []) rfl rfl rfl ?_
        refine pm_R_lo pm_M111 (pc' := 15) rfl rfl rfl ?_
        refine pm_R_lo pm_M111 (pc' := 16) rfl rfl rfl ?_
        refine pm_R_cv pm_M111 (pc' := 19) (a := 16) (ra := [.int a2]) (rest := []) (ls' := [.ref 16, .int a2]) rfl rfl (Or.inl rfl) pm_M66 T.e16 rfl (by decide) (T.lt (by decide)) rfl rfl (Nat.le_of_ble_eq_true rfl) rfl rfl ?_
        refine pm_R_lo pm_M66 (pc' := 1) rfl rfl rfl ?_
        refine pm_R_ifc pm_M66 (t := 17) (pc' := 4) rfl rfl rfl (fun c180 => ?_) (fun c180 => ?_)
        · have B181 : sf_B (-2147483648) (-1) a2 := sf_ltL c180 (sf_any a2) sf_k0
          refine pm_R_op pm_M66 (pc' := 18) (st' := [.null]) rfl rfl rfl ?_
          refine pm_R_br pm_M66 (pc' := 30) rfl rfl ?_
          refine pm_R_ret pm_M66 (r := some (.null)) rfl rfl ?_
          show pm_R _ 111 19 [.ref 16, .int a0, .int a1, .int a2, .null, .null, pm_no] [.null] _ _
          refine pm_R_lo pm_M111 (pc' := 21) (ls' := [.ref 16, .int a0, .int a1, .int a2, .null, .null, .null]) (st' := []) rfl rfl rfl ?_
          refine pm_R_lo pm_M111 (pc' := 23) rfl rfl rfl ?_
          refine pm_R_br pm_M111 (pc' := 36) rfl rfl ?_
          refine pm_R_op pm_M111 (pc' := 37) (st' := [.int (-1)]) rfl rfl rfl ?_
          exact pm_R_ret pm_M111 (r := some (.int (-1))) rfl rfl (K (-1) m h T (rf_G.refl [32, 38] h) (rf_W.refl [] m) (sf_weak sf_kn1 (by decide) (by decide)))
        · have B182 : sf_B 0 2147483647 a2 := sf_leR (Int32.not_lt.mp c180) sf_k0 (sf_any a2)
          refine pm_R_lo pm_M66 (pc' := 5) rfl rfl rfl ?_
          refine pm_R_lo pm_M66 (pc' := 6) rfl rfl rfl ?_
          refine pm_R_get pm_M66 (pc' := 9) (v := .ref 17) rfl rfl T.e16 (by decide) (T.lt (by decide)) rfl rfl ?_
          refine pm_R_get pm_M66 (pc' := 12) (v := .ref 23) rfl rfl T.e17 (by decide) (T.lt (by decide)) rfl rfl ?_
          refine pm_R_op pm_M66 (pc' := 13) (st' := [.int 1, .ref 23, .int a2]) rfl rfl rfl ?_
          obtain ⟨z183, ez184⟩ : ∃ y, f70 (Int32.toNatClampNeg 1) = y := ⟨_, rfl⟩
          have B185 : sf_B 0 3 z183 := ez184 ▸ (b72 1)
          refine pm_R_iald pm_M66 (pc' := 14) (v := z183) rfl e71 (T.lt (by decide)) rfl ez184 rfl ?_
          refine pm_R_icmp pm_M66 (t := 21) (pc' := 17) rfl rfl rfl (fun c186 => ?_) (fun c186 => ?_)
          · have B187 : sf_B 0 2 a2 := sf_ltL c186 B182 B185
            have B188 : sf_B 1 3 z183 := sf_ltR c186 B182 B185
            refine pm_R_lo pm_M66 (pc' := 22) rfl rfl rfl ?_
            refine pm_R_get pm_M66 (pc' := 25) (v := .ref 17) rfl rfl T.e16 (by decide) (T.lt (by decide)) rfl rfl ?_
            refine pm_R_get pm_M66 (pc' := 28) (v := .ref 20) rfl rfl T.e17 (by decide) (T.lt (by decide)) rfl rfl ?_
            refine pm_R_lo pm_M66 (pc' := 29) rfl rfl rfl ?_
            obtain ⟨f189, e190, b191⟩ := T.C 20 (by decide) (by decide)
            obtain ⟨l192, hx193⟩ := cl_there1 T e71 e190 ez184 c186 B187 (by decide)
            have hk194 := b191 _ _ hx193
            refine pm_R_aald pm_M66 (pc' := 30) (v := .ref l192) rfl e190 (by decide) (by decide) (by decide) (T.lt (by decide)) (sf_in B187 (by decide) (by decide)) (by rw [hx193]; rfl) rfl ?_
            refine pm_R_ret pm_M66 (r := some (.ref l192)) rfl rfl ?_
            show pm_R _ 111 19 [.ref 16, .int a0, .int a1, .int a2, .null, .null, pm_no] [.ref l192] _ _
            refine pm_R_lo pm_M111 (pc' := 21) (ls' := [.ref 16, .int a0, .int a1, .int a2, .null, .null, .ref l192]) (st' := []) rfl rfl rfl ?_
            refine pm_R_lo pm_M111 (pc' := 23) rfl rfl rfl ?_
            refine pm_R_br pm_M111 (pc' := 36) rfl rfl ?_
            refine pm_R_op pm_M111 (pc' := 37) (st' := [.int (-1)]) rfl rfl rfl ?_
            exact pm_R_ret pm_M111 (r := some (.int (-1))) rfl rfl (K (-1) m h T (rf_G.refl [32, 38] h) (rf_W.refl [] m) (sf_weak sf_kn1 (by decide) (by decide)))
          · skip
            refine pm_R_op pm_M66 (pc' := 18) (st' := [.null]) rfl rfl rfl ?_
            refine pm_R_br pm_M66 (pc' := 30) rfl rfl ?_
            refine pm_R_ret pm_M66 (r := some (.null)) rfl rfl ?_
            show pm_R _ 111 19 [.ref 16, .int a0, .int a1, .int a2, .null, .null, pm_no] [.null] _ _
            refine pm_R_lo pm_M111 (pc' := 21) (ls' := [.ref 16, .int a0, .int a1, .int a2, .null, .null, .null]) (st' := []) rfl rfl rfl ?_
            refine pm_R_lo pm_M111 (pc' := 23) rfl rfl rfl ?_
            refine pm_R_br pm_M111 (pc' := 36) rfl rfl ?_
            refine pm_R_op pm_M111 (pc' := 37) (st' := [.int (-1)]) rfl rfl rfl ?_
            exact pm_R_ret pm_M111 (r := some (.int (-1))) rfl rfl (K (-1) m h T (rf_G.refl [32, 38] h) (rf_W.refl [] m) (sf_weak sf_kn1 (by decide) (by decide)))
      · have B195 : sf_B 0 2147483647 a1 := sf_leR (Int32.not_lt.mp c178) sf_k0 (sf_any a1)
        refine pm_R_lo pm_M66 (pc' := 5) rfl rfl rfl ?_
        refine pm_R_lo pm_M66 (pc' := 6) rfl rfl rfl ?_
        refine pm_R_get pm_M66 (pc' := 9) (v := .ref 17) rfl rfl T.e16 (by decide) (T.lt (by decide)) rfl rfl ?_
        refine pm_R_get pm_M66 (pc' := 12) (v := .ref 23) rfl rfl T.e17 (by decide) (T.lt (by decide)) rfl rfl ?_
        refine pm_R_op pm_M66 (pc' := 13) (st' := [.int 1, .ref 23, .int a1]) rfl rfl rfl ?_
        obtain ⟨z196, ez197⟩ : ∃ y, f70 (Int32.toNatClampNeg 1) = y := ⟨_, rfl⟩
        have B198 : sf_B 0 3 z196 := ez197 ▸ (b72 1)
        refine pm_R_iald pm_M66 (pc' := 14) (v := z196) rfl e71 (T.lt (by decide)) rfl ez197 rfl ?_
        refine pm_R_icmp pm_M66 (t := 21) (pc' := 17) rfl rfl rfl (fun c199 => ?_) (fun c199 => ?_)
        · have B200 : sf_B 0 2 a1 := sf_ltL c199 B195 B198
          have B201 : sf_B 1 3 z196 := sf_ltR c199 B195 B198
          refine pm_R_lo pm_M66 (pc' := 22) rfl rfl rfl ?_
          refine pm_R_get pm_M66 (pc' := 25) (v := .ref 17) rfl rfl T.e16 (by decide) (T.lt (by decide)) rfl rfl ?_
          refine pm_R_get pm_M66 (pc' := 28) (v := .ref 20) rfl rfl T.e17 (by decide) (T.lt (by decide)) rfl rfl ?_
          refine pm_R_lo pm_M66 (pc' := 29) rfl rfl rfl ?_
          obtain ⟨f202, e203, b204⟩ := T.C 20 (by decide) (by decide)
          obtain ⟨l205, hx206⟩ := cl_there1 T e71 e203 ez197 c199 B200 (by decide)
          have hk207 := b204 _ _ hx206
          refine pm_R_aald pm_M66 (pc' := 30) (v := .ref l205) rfl e203 (by decide) (by decide) (by decide) (T.lt (by decide)) (sf_in B200 (by decide) (by decide)) (by rw [hx206]; rfl) rfl ?_
          refine pm_R_ret pm_M66 (r := some (.ref l205)) rfl rfl ?_
          show pm_R _ 111 12 [.ref 16, .int a0, .int a1, .int a2, .null, pm_no, pm_no] [.ref l205] _ _
          refine pm_R_lo pm_M111 (pc' := 14) (ls' := [.ref 16, .int a0, .int a1, .int a2, .null, .ref l205, pm_no]) (st' := []) rfl rfl rfl ?_
          refine pm_R_lo pm_M111 (pc' := 15) rfl rfl rfl ?_
          refine pm_R_lo pm_M111 (pc' := 16) rfl rfl rfl ?_
          refine pm_R_cv pm_M111 (pc' := 19) (a := 16) (ra := [.int a2]) (rest := []) (ls' := [.ref 16, .int a2]) rfl rfl (Or.inl rfl) pm_M66 T.e16 rfl (by decide) (T.lt (by decide)) rfl rfl (Nat.le_of_ble_eq_true rfl) rfl rfl ?_
          refine pm_R_lo pm_M66 (pc' := 1) rfl rfl rfl ?_
          refine pm_R_ifc pm_M66 (t := 17) (pc' := 4) rfl rfl rfl (fun c208 => ?_) (fun c208 => ?_)
          · have B209 : sf_B (-2147483648) (-1) a2 := sf_ltL c208 (sf_any a2) sf_k0
            refine pm_R_op pm_M66 (pc' := 18) (st' := [.null]) rfl rfl rfl ?_
            refine pm_R_br pm_M66 (pc' := 30) rfl rfl ?_
            refine pm_R_ret pm_M66 (r := some (.null)) rfl rfl ?_
            show pm_R _ 111 19 [.ref 16, .int a0, .int a1, .int a2, .null, .ref l205, pm_no] [.null] _ _
            refine pm_R_lo pm_M111 (pc' := 21) (ls' := [.ref 16, .int a0, .int a1, .int a2, .null, .ref l205, .null]) (st' := []) rfl rfl rfl ?_
            refine pm_R_lo pm_M111 (pc' := 23) rfl rfl rfl ?_
            refine pm_R_br pm_M111 (pc' := 36) rfl rfl ?_
            refine pm_R_op pm_M111 (pc' := 37) (st' := [.int (-1)]) rfl rfl rfl ?_
            exact pm_R_ret pm_M111 (r := some (.int (-1))) rfl rfl (K (-1) m h T (rf_G.refl [32, 38] h) (rf_W.refl [] m) (sf_weak sf_kn1 (by decide) (by decide)))
          · have B210 : sf_B 0 2147483647 a2 := sf_leR (Int32.not_lt.mp c208) sf_k0 (sf_any a2)
            refine pm_R_lo pm_M66 (pc' := 5) rfl rfl rfl ?_
            refine pm_R_lo pm_M66 (pc' := 6) rfl rfl rfl ?_
            refine pm_R_get pm_M66 (pc' := 9) (v := .ref 17) rfl rfl T.e16 (by decide) (T.lt (by decide)) rfl rfl ?_
            refine pm_R_get pm_M66 (pc' := 12) (v := .ref 23) rfl rfl T.e17 (by decide) (T.lt (by decide)) rfl rfl ?_
            refine pm_R_op pm_M66 (pc' := 13) (st' := [.int 1, .ref 23, .int a2]) rfl rfl rfl ?_
            refine pm_R_iald pm_M66 (pc' := 14) (v := z196) rfl e71 (T.lt (by decide)) rfl ez197 rfl ?_
            refine pm_R_icmp pm_M66 (t := 21) (pc' := 17) rfl rfl rfl (fun c214 => ?_) (fun c214 => ?_)
            · have B215 : sf_B 0 2 a2 := sf_ltL c214 B210 B201
              refine pm_R_lo pm_M66 (pc' := 22) rfl rfl rfl ?_
              refine pm_R_get pm_M66 (pc' := 25) (v := .ref 17) rfl rfl T.e16 (by decide) (T.lt (by decide)) rfl rfl ?_
              refine pm_R_get pm_M66 (pc' := 28) (v := .ref 20) rfl rfl T.e17 (by decide) (T.lt (by decide)) rfl rfl ?_
              refine pm_R_lo pm_M66 (pc' := 29) rfl rfl rfl ?_
              obtain ⟨l216, hx217⟩ := cl_there1 T e71 e203 ez197 c214 B215 (by decide)
              have hk218 := b204 _ _ hx217
              refine pm_R_aald pm_M66 (pc' := 30) (v := .ref l216) rfl e203 (by decide) (by decide) (by decide) (T.lt (by decide)) (sf_in B215 (by decide) (by decide)) (by rw [hx217]; rfl) rfl ?_
              refine pm_R_ret pm_M66 (r := some (.ref l216)) rfl rfl ?_
              show pm_R _ 111 19 [.ref 16, .int a0, .int a1, .int a2, .null, .ref l205, pm_no] [.ref l216] _ _
              refine pm_R_lo pm_M111 (pc' := 21) (ls' := [.ref 16, .int a0, .int a1, .int a2, .null, .ref l205, .ref l216]) (st' := []) rfl rfl rfl ?_
              refine pm_R_lo pm_M111 (pc' := 23) rfl rfl rfl ?_
              refine pm_R_br pm_M111 (pc' := 36) rfl rfl ?_
              refine pm_R_op pm_M111 (pc' := 37) (st' := [.int (-1)]) rfl rfl rfl ?_
              exact pm_R_ret pm_M111 (r := some (.int (-1))) rfl rfl (K (-1) m h T (rf_G.refl [32, 38] h) (rf_W.refl [] m) (sf_weak sf_kn1 (by decide) (by decide)))
            · have B219 : sf_B 1 2147483647 a2 := sf_leR (Int32.not_lt.mp c214) B201 B210
              refine pm_R_op pm_M66 (pc' := 18) (st' := [.null]) rfl rfl rfl ?_
              refine pm_R_br pm_M66 (pc' := 30) rfl rfl ?_
              refine pm_R_ret pm_M66 (r := some (.null)) rfl rfl ?_
              show pm_R _ 111 19 [.ref 16, .int a0, .int a1, .int a2, .null, .ref l205, pm_no] [.null] _ _
              refine pm_R_lo pm_M111 (pc' := 21) (ls' := [.ref 16, .int a0, .int a1, .int a2, .null, .ref l205, .null]) (st' := []) rfl rfl rfl ?_
              refine pm_R_lo pm_M111 (pc' := 23) rfl rfl rfl ?_
              refine pm_R_br pm_M111 (pc' := 36) rfl rfl ?_
              refine pm_R_op pm_M111 (pc' := 37) (st' := [.int (-1)]) rfl rfl rfl ?_
              exact pm_R_ret pm_M111 (r := some (.int (-1))) rfl rfl (K (-1) m h T (rf_G.refl [32, 38] h) (rf_W.refl [] m) (sf_weak sf_kn1 (by decide) (by decide)))
        · skip
          refine pm_R_op pm_M66 (pc' := 18) (st' := [.null]) rfl rfl rfl ?_
          refine pm_R_br pm_M66 (pc' := 30) rfl rfl ?_
          refine pm_R_ret pm_M66 (r := some (.null)) rfl rfl ?_
          show pm_R _ 111 12 [.ref 16, .int a0, .int a1, .int a2, .null, pm_no, pm_no] [.null] _ _
          refine pm_R_lo pm_M111 (pc' := 14) (ls' := [.ref 16, .int a0, .int a1, .int a2, .null, .null, pm_no]) (st' := []) rfl rfl rfl ?_
          refine pm_R_lo pm_M111 (pc' := 15) rfl rfl rfl ?_
          refine pm_R_lo pm_M111 (pc' := 16) rfl rfl rfl ?_
          refine pm_R_cv pm_M111 (pc' := 19) (a := 16) (ra := [.int a2]) (rest := []) (ls' := [.ref 16, .int a2]) rfl rfl (Or.inl rfl) pm_M66 T.e16 rfl (by decide) (T.lt (by decide)) rfl rfl (Nat.le_of_ble_eq_true rfl) rfl rfl ?_
          refine pm_R_lo pm_M66 (pc' := 1) rfl rfl rfl ?_
          refine pm_R_ifc pm_M66 (t := 17) (pc' := 4) rfl rfl rfl (fun c220 => ?_) (fun c220 => ?_)
          · have B221 : sf_B (-2147483648) (-1) a2 := sf_ltL c220 (sf_any a2) sf_k0
            refine pm_R_op pm_M66 (pc' := 18) (st' := [.null]) rfl rfl rfl ?_
            refine pm_R_br pm_M66 (pc' := 30) rfl rfl ?_
            refine pm_R_ret pm_M66 (r := some (.null)) rfl rfl ?_
            show pm_R _ 111 19 [.ref 16, .int a0, .int a1, .int a2, .null, .null, pm_no] [.null] _ _
            refine pm_R_lo pm_M111 (pc' := 21) (ls' := [.ref 16, .int a0, .int a1, .int a2, .null, .null, .null]) (st' := []) rfl rfl rfl ?_
            refine pm_R_lo pm_M111 (pc' := 23) rfl rfl rfl ?_
            refine pm_R_br pm_M111 (pc' := 36) rfl rfl ?_
            refine pm_R_op pm_M111 (pc' := 37) (st' := [.int (-1)]) rfl rfl rfl ?_
            exact pm_R_ret pm_M111 (r := some (.int (-1))) rfl rfl (K (-1) m h T (rf_G.refl [32, 38] h) (rf_W.refl [] m) (sf_weak sf_kn1 (by decide) (by decide)))
          · have B222 : sf_B 0 2147483647 a2 := sf_leR (Int32.not_lt.mp c220) sf_k0 (sf_any a2)
            refine pm_R_lo pm_M66 (pc' := 5) rfl rfl rfl ?_
            refine pm_R_lo pm_M66 (pc' := 6) rfl rfl rfl ?_
            refine pm_R_get pm_M66 (pc' := 9) (v := .ref 17) rfl rfl T.e16 (by decide) (T.lt (by decide)) rfl rfl ?_
            refine pm_R_get pm_M66 (pc' := 12) (v := .ref 23) rfl rfl T.e17 (by decide) (T.lt (by decide)) rfl rfl ?_
            refine pm_R_op pm_M66 (pc' := 13) (st' := [.int 1, .ref 23, .int a2]) rfl rfl rfl ?_
            refine pm_R_iald pm_M66 (pc' := 14) (v := z196) rfl e71 (T.lt (by decide)) rfl ez197 rfl ?_
            refine pm_R_icmp pm_M66 (t := 21) (pc' := 17) rfl rfl rfl (fun c226 => ?_) (fun c226 => ?_)
            · have B227 : sf_B 0 2 a2 := sf_ltL c226 B222 B198
              have B228 : sf_B 1 3 z196 := sf_ltR c226 B222 B198
              refine pm_R_lo pm_M66 (pc' := 22) rfl rfl rfl ?_
              refine pm_R_get pm_M66 (pc' := 25) (v := .ref 17) rfl rfl T.e16 (by decide) (T.lt (by decide)) rfl rfl ?_
              refine pm_R_get pm_M66 (pc' := 28) (v := .ref 20) rfl rfl T.e17 (by decide) (T.lt (by decide)) rfl rfl ?_
              refine pm_R_lo pm_M66 (pc' := 29) rfl rfl rfl ?_
              obtain ⟨f229, e230, b231⟩ := T.C 20 (by decide) (by decide)
              obtain ⟨l232, hx233⟩ := cl_there1 T e71 e230 ez197 c226 B227 (by decide)
              have hk234 := b231 _ _ hx233
              refine pm_R_aald pm_M66 (pc' := 30) (v := .ref l232) rfl e230 (by decide) (by decide) (by decide) (T.lt (by decide)) (sf_in B227 (by decide) (by decide)) (by rw [hx233]; rfl) rfl ?_
              refine pm_R_ret pm_M66 (r := some (.ref l232)) rfl rfl ?_
              show pm_R _ 111 19 [.ref 16, .int a0, .int a1, .int a2, .null, .null, pm_no] [.ref l232] _ _
              refine pm_R_lo pm_M111 (pc' := 21) (ls' := [.ref 16, .int a0, .int a1, .int a2, .null, .null, .ref l232]) (st' := []) rfl rfl rfl ?_
              refine pm_R_lo pm_M111 (pc' := 23) rfl rfl rfl ?_
              refine pm_R_br pm_M111 (pc' := 36) rfl rfl ?_
              refine pm_R_op pm_M111 (pc' := 37) (st' := [.int (-1)]) rfl rfl rfl ?_
              exact pm_R_ret pm_M111 (r := some (.int (-1))) rfl rfl (K (-1) m h T (rf_G.refl [32, 38] h) (rf_W.refl [] m) (sf_weak sf_kn1 (by decide) (by decide)))
            · skip
              refine pm_R_op pm_M66 (pc' := 18) (st' := [.null]) rfl rfl rfl ?_
              refine pm_R_br pm_M66 (pc' := 30) rfl rfl ?_
              refine pm_R_ret pm_M66 (r := some (.null)) rfl rfl ?_
              show pm_R _ 111 19 [.ref 16, .int a0, .int a1, .int a2, .null, .null, pm_no] [.null] _ _
              refine pm_R_lo pm_M111 (pc' := 21) (ls' := [.ref 16, .int a0, .int a1, .int a2, .null, .null, .null]) (st' := []) rfl rfl rfl ?_
              refine pm_R_lo pm_M111 (pc' := 23) rfl rfl rfl ?_
              refine pm_R_br pm_M111 (pc' := 36) rfl rfl ?_
              refine pm_R_op pm_M111 (pc' := 37) (st' := [.int (-1)]) rfl rfl rfl ?_
              exact pm_R_ret pm_M111 (r := some (.int (-1))) rfl rfl (K (-1) m h T (rf_G.refl [32, 38] h) (rf_W.refl [] m) (sf_weak sf_kn1 (by decide) (by decide)))
