set_option maxRecDepth 100000 in
set_option maxHeartbeats 4000000 in
/-- SilentTable.reading -/
theorem cl_c64 {d : Nat} {ck : cl_K} {E : Nat → pm_E} {m : Nat → Int32} {o : Nat → Option Nat} {h : pm_H} {Q : Option Value → pm_H → Prop} {a0 : Int32} {a1 : Int32} {a2 : Int32} (G : cl_G ck E) (T : cl_T ck E m o h)  (K : ∀ (r : Int32), Q (some (.int r)) h) : pm_R (d + 1) 64 0 [.ref 16, .int a0, .int a1, .int a2, pm_no] [] h Q := by
  refine pm_R_lo pm_M64 (pc_q := 1) rfl rfl rfl ?_
  refine pm_R_lo pm_M64 (pc_q := 2) rfl rfl rfl ?_
  refine pm_R_cv pm_M64 (pc_q := 5) (a := 16) (ra := [.int a0]) (rest := []) (ls_q := [.ref 16, .int a0]) rfl rfl (Or.inl rfl) pm_M62 T.e16 rfl (by decide) (T.lt (by decide)) rfl rfl (Nat.le_of_ble_eq_true rfl) rfl rfl ?_
  refine pm_R_lo pm_M62 (pc_q := 1) rfl rfl rfl ?_
  refine pm_R_ifc pm_M62 (t := 17) (pc_q := 4) rfl rfl rfl (fun c1 => ?_) (fun c1 => ?_)
  · have B2 : sf_B (-2147483648) (-1) a0 := sf_ltL c1 (sf_any a0) sf_k0
    refine pm_R_op pm_M62 (pc_q := 18) (st_q := [.null]) rfl rfl rfl ?_
    refine pm_R_br pm_M62 (pc_q := 30) rfl rfl ?_
    refine pm_R_ret pm_M62 (r := some (.null)) rfl rfl ?_
    show pm_R _ 64 5 [.ref 16, .int a0, .int a1, .int a2, pm_no] [.null] _ _
    refine pm_R_lo pm_M64 (pc_q := 7) (ls_q := [.ref 16, .int a0, .int a1, .int a2, .null]) (st_q := []) rfl rfl rfl ?_
    refine pm_R_lo pm_M64 (pc_q := 9) rfl rfl rfl ?_
    refine pm_R_br pm_M64 (pc_q := 34) rfl rfl ?_
    refine pm_R_op pm_M64 (pc_q := 35) (st_q := [.int (-1)]) rfl rfl rfl ?_
    exact pm_R_ret pm_M64 (r := some (.int (-1))) rfl rfl (K (-1))
  · have B3 : sf_B 0 2147483647 a0 := sf_leR (Int32.not_lt.mp c1) sf_k0 (sf_any a0)
    refine pm_R_lo pm_M62 (pc_q := 5) rfl rfl rfl ?_
    refine pm_R_lo pm_M62 (pc_q := 6) rfl rfl rfl ?_
    refine pm_R_get pm_M62 (pc_q := 9) (v := .ref 17) rfl rfl T.e16 (by decide) (T.lt (by decide)) rfl rfl ?_
    refine pm_R_get pm_M62 (pc_q := 12) (v := .ref 23) rfl rfl T.e17 (by decide) (T.lt (by decide)) rfl rfl ?_
    refine pm_R_op pm_M62 (pc_q := 13) (st_q := [.int 0, .ref 23, .int a0]) rfl rfl rfl ?_
    obtain ⟨f7, e8, b9⟩ := T.C 23 (by decide) (by decide)
    obtain ⟨z4, ez5⟩ : ∃ y, f7 (Int32.toNatClampNeg 0) = y := ⟨_, rfl⟩
    have B6 : sf_B 0 2 z4 := ez5 ▸ (b9 0)
    refine pm_R_iald pm_M62 (pc_q := 14) (v := z4) rfl e8 (T.lt (by decide)) rfl ez5 rfl ?_
    refine pm_R_icmp pm_M62 (t := 21) (pc_q := 17) rfl rfl rfl (fun c10 => ?_) (fun c10 => ?_)
    · have B11 : sf_B 0 1 a0 := sf_ltL c10 B3 B6
      have B12 : sf_B 1 2 z4 := sf_ltR c10 B3 B6
      refine pm_R_lo pm_M62 (pc_q := 22) rfl rfl rfl ?_
      refine pm_R_get pm_M62 (pc_q := 25) (v := .ref 17) rfl rfl T.e16 (by decide) (T.lt (by decide)) rfl rfl ?_
      refine pm_R_get pm_M62 (pc_q := 28) (v := .ref 19) rfl rfl T.e17 (by decide) (T.lt (by decide)) rfl rfl ?_
      refine pm_R_lo pm_M62 (pc_q := 29) rfl rfl rfl ?_
      obtain ⟨f13, e14, b15⟩ := T.C 19 (by decide) (by decide)
      obtain ⟨l16, hx17⟩ := cl_there0 T e8 e14 ez5 c10 B11 (by decide)
      have hk18 := b15 _ _ hx17
      refine pm_R_aald pm_M62 (pc_q := 30) (v := .ref l16) rfl e14 (by decide) (by decide) (by decide) (T.lt (by decide)) (sf_in B11 (by decide) (by decide)) (by rw [hx17]; rfl) rfl ?_
      refine pm_R_ret pm_M62 (r := some (.ref l16)) rfl rfl ?_
      show pm_R _ 64 5 [.ref 16, .int a0, .int a1, .int a2, pm_no] [.ref l16] _ _
      refine pm_R_lo pm_M64 (pc_q := 7) (ls_q := [.ref 16, .int a0, .int a1, .int a2, .ref l16]) (st_q := []) rfl rfl rfl ?_
      refine pm_R_lo pm_M64 (pc_q := 9) rfl rfl rfl ?_
      refine pm_R_br pm_M64 (pc_q := 12) rfl rfl ?_
      refine pm_R_lo pm_M64 (pc_q := 13) rfl rfl rfl ?_
      refine pm_R_ifc pm_M64 (t := 34) (pc_q := 16) rfl rfl rfl (fun c19 => ?_) (fun c19 => ?_)
      · have B20 : sf_B (-2147483648) (-1) a1 := sf_ltL c19 (sf_any a1) sf_k0
        refine pm_R_op pm_M64 (pc_q := 35) (st_q := [.int (-1)]) rfl rfl rfl ?_
        exact pm_R_ret pm_M64 (r := some (.int (-1))) rfl rfl (K (-1))
      · have B21 : sf_B 0 2147483647 a1 := sf_leR (Int32.not_lt.mp c19) sf_k0 (sf_any a1)
        refine pm_R_lo pm_M64 (pc_q := 17) rfl rfl rfl ?_
        refine pm_R_lo pm_M64 (pc_q := 19) rfl rfl rfl ?_
        obtain ⟨rc22, tc23, rs24, fv25, fw26, fr27, ft28, fn29, h30, h31, B32, eE33, eE34, eE35, eE36, eE37, eE38, b39, b40, b41⟩ := (G.2.1 l16 hk18).2.2.2.2.2
        have kq42 := G.2.1 l16 hk18
        refine pm_R_get pm_M64 (pc_q := 22) (v := .int (Int32.ofNat tc23)) rfl rfl (T.im hk18 (by decide) (by decide) eE33) (G.ge hk18 (by decide)) (T.al hk18 (by decide)) rfl rfl ?_
        refine pm_R_icmp pm_M64 (t := 34) (pc_q := 25) rfl rfl rfl (fun c43 => ?_) (fun c43 => ?_)
        · skip
          refine pm_R_op pm_M64 (pc_q := 35) (st_q := [.int (-1)]) rfl rfl rfl ?_
          exact pm_R_ret pm_M64 (r := some (.int (-1))) rfl rfl (K (-1))
        · have B44 : sf_B 0 15 a1 := sf_ltL (Int32.not_le.mp c43) B21 (sf_ofB h31 (by decide))
          have B45 : sf_B 1 16 (Int32.ofNat tc23) := sf_ltR (Int32.not_le.mp c43) B21 (sf_ofB h31 (by decide))
          refine pm_R_lo pm_M64 (pc_q := 26) rfl rfl rfl ?_
          refine pm_R_ifc pm_M64 (t := 34) (pc_q := 29) rfl rfl rfl (fun c46 => ?_) (fun c46 => ?_)
          · have B47 : sf_B (-2147483648) (-1) a2 := sf_ltL c46 (sf_any a2) sf_k0
            refine pm_R_op pm_M64 (pc_q := 35) (st_q := [.int (-1)]) rfl rfl rfl ?_
            exact pm_R_ret pm_M64 (r := some (.int (-1))) rfl rfl (K (-1))
          · have B48 : sf_B 0 2147483647 a2 := sf_leR (Int32.not_lt.mp c46) sf_k0 (sf_any a2)
            refine pm_R_lo pm_M64 (pc_q := 30) rfl rfl rfl ?_
            refine pm_R_op pm_M64 (pc_q := 31) (st_q := [.int 2, .int a2]) rfl rfl rfl ?_
            refine pm_R_icmp pm_M64 (t := 36) (pc_q := 34) rfl rfl rfl (fun c49 => ?_) (fun c49 => ?_)
            · have B50 : sf_B 0 2 a2 := sf_leL c49 B48 sf_k2
              refine pm_R_lo pm_M64 (pc_q := 38) rfl rfl rfl ?_
              refine pm_R_get pm_M64 (pc_q := 41) (v := .ref (l16 + 4)) rfl rfl (T.im hk18 (by decide) (by decide) eE33) (G.ge hk18 (by decide)) (T.al hk18 (by decide)) rfl rfl ?_
              refine pm_R_lo pm_M64 (pc_q := 42) rfl rfl rfl ?_
              refine pm_R_op pm_M64 (pc_q := 43) (st_q := [.int 4, .int a1, .ref (l16 + 4)]) rfl rfl rfl ?_
              refine sf_R_imul pm_M64 (pc_q := 44) rfl rfl B44 sf_k4 (by decide) (by decide) (by decide) (fun z51 e52 B53 => ?_)
              refine pm_R_lo pm_M64 (pc_q := 45) rfl rfl rfl ?_
              refine sf_R_iadd pm_M64 (pc_q := 46) rfl rfl B53 B50 (by decide) (by decide) (fun z54 e55 B56 => ?_)
              have q60 := cl_in4 (n := tc23) (Nat.le_trans h31 (by decide)) (Int32.not_le.mp c43) (cl_aux4 _ _ _ _ e52 e55) B44 (by decide) (cl_c03 B50 (by decide) (by decide))
              obtain ⟨z57, ez58⟩ : ∃ y, ft28 (Int32.toNatClampNeg z54) = y := ⟨_, rfl⟩
              refine pm_R_iald pm_M64 (pc_q := 47) (v := z57) rfl (T.im kq42.2.2.2.1 (by decide) (by decide) eE37) (T.al kq42.2.2.2.1 (by decide)) q60.1 ez58 rfl ?_
              exact pm_R_ret pm_M64 (r := some (.int z57)) rfl (pm_ret_i _) (K z57)
            · have B61 : sf_B 3 2147483647 a2 := sf_ltR (Int32.not_le.mp c49) sf_k2 B48
              refine pm_R_op pm_M64 (pc_q := 35) (st_q := [.int (-1)]) rfl rfl rfl ?_
              exact pm_R_ret pm_M64 (r := some (.int (-1))) rfl rfl (K (-1))
    · skip
      refine pm_R_op pm_M62 (pc_q := 18) (st_q := [.null]) rfl rfl rfl ?_
      refine pm_R_br pm_M62 (pc_q := 30) rfl rfl ?_
      refine pm_R_ret pm_M62 (r := some (.null)) rfl rfl ?_
      show pm_R _ 64 5 [.ref 16, .int a0, .int a1, .int a2, pm_no] [.null] _ _
      refine pm_R_lo pm_M64 (pc_q := 7) (ls_q := [.ref 16, .int a0, .int a1, .int a2, .null]) (st_q := []) rfl rfl rfl ?_
      refine pm_R_lo pm_M64 (pc_q := 9) rfl rfl rfl ?_
      refine pm_R_br pm_M64 (pc_q := 34) rfl rfl ?_
      refine pm_R_op pm_M64 (pc_q := 35) (st_q := [.int (-1)]) rfl rfl rfl ?_
      exact pm_R_ret pm_M64 (r := some (.int (-1))) rfl rfl (K (-1))

set_option maxRecDepth 100000 in
set_option maxHeartbeats 4000000 in
/-- SilentTable.row -/
theorem cl_c65 {d : Nat} {ck : cl_K} {E : Nat → pm_E} {m : Nat → Int32} {o : Nat → Option Nat} {h : pm_H} {Q : Option Value → pm_H → Prop} {a0 : Int32} {a1 : Int32} (G : cl_G ck E) (T : cl_T ck E m o h)  (K : ∀ (r : Int32), sf_B (-2) 12 r → Q (some (.int r)) h) : pm_R (d + 1) 65 0 [.ref 16, .int a0, .int a1, pm_no] [] h Q := by
  refine pm_R_lo pm_M65 (pc_q := 1) rfl rfl rfl ?_
  refine pm_R_lo pm_M65 (pc_q := 2) rfl rfl rfl ?_
  refine pm_R_cv pm_M65 (pc_q := 5) (a := 16) (ra := [.int a0]) (rest := []) (ls_q := [.ref 16, .int a0]) rfl rfl (Or.inl rfl) pm_M66 T.e16 rfl (by decide) (T.lt (by decide)) rfl rfl (Nat.le_of_ble_eq_true rfl) rfl rfl ?_
  refine pm_R_lo pm_M66 (pc_q := 1) rfl rfl rfl ?_
  refine pm_R_ifc pm_M66 (t := 17) (pc_q := 4) rfl rfl rfl (fun c1 => ?_) (fun c1 => ?_)
  · have B2 : sf_B (-2147483648) (-1) a0 := sf_ltL c1 (sf_any a0) sf_k0
    refine pm_R_op pm_M66 (pc_q := 18) (st_q := [.null]) rfl rfl rfl ?_
    refine pm_R_br pm_M66 (pc_q := 30) rfl rfl ?_
    refine pm_R_ret pm_M66 (r := some (.null)) rfl rfl ?_
    show pm_R _ 65 5 [.ref 16, .int a0, .int a1, pm_no] [.null] _ _
    refine pm_R_lo pm_M65 (pc_q := 6) (ls_q := [.ref 16, .int a0, .int a1, .null]) (st_q := []) rfl rfl rfl ?_
    refine pm_R_lo pm_M65 (pc_q := 7) rfl rfl rfl ?_
    refine pm_R_br pm_M65 (pc_q := 10) rfl rfl ?_
    refine pm_R_op pm_M65 (pc_q := 12) (st_q := [.int (-2)]) rfl rfl rfl ?_
    exact pm_R_ret pm_M65 (r := some (.int (-2))) rfl rfl (K (-2) (sf_weak sf_kn2 (by decide) (by decide)))
  · have B3 : sf_B 0 2147483647 a0 := sf_leR (Int32.not_lt.mp c1) sf_k0 (sf_any a0)
    refine pm_R_lo pm_M66 (pc_q := 5) rfl rfl rfl ?_
    refine pm_R_lo pm_M66 (pc_q := 6) rfl rfl rfl ?_
    refine pm_R_get pm_M66 (pc_q := 9) (v := .ref 17) rfl rfl T.e16 (by decide) (T.lt (by decide)) rfl rfl ?_
    refine pm_R_get pm_M66 (pc_q := 12) (v := .ref 23) rfl rfl T.e17 (by decide) (T.lt (by decide)) rfl rfl ?_
    refine pm_R_op pm_M66 (pc_q := 13) (st_q := [.int 1, .ref 23, .int a0]) rfl rfl rfl ?_
    obtain ⟨f7, e8, b9⟩ := T.C 23 (by decide) (by decide)
    obtain ⟨z4, ez5⟩ : ∃ y, f7 (Int32.toNatClampNeg 1) = y := ⟨_, rfl⟩
    have B6 : sf_B 0 3 z4 := ez5 ▸ (b9 1)
    refine pm_R_iald pm_M66 (pc_q := 14) (v := z4) rfl e8 (T.lt (by decide)) rfl ez5 rfl ?_
    refine pm_R_icmp pm_M66 (t := 21) (pc_q := 17) rfl rfl rfl (fun c10 => ?_) (fun c10 => ?_)
    · have B11 : sf_B 0 2 a0 := sf_ltL c10 B3 B6
      have B12 : sf_B 1 3 z4 := sf_ltR c10 B3 B6
      refine pm_R_lo pm_M66 (pc_q := 22) rfl rfl rfl ?_
      refine pm_R_get pm_M66 (pc_q := 25) (v := .ref 17) rfl rfl T.e16 (by decide) (T.lt (by decide)) rfl rfl ?_
      refine pm_R_get pm_M66 (pc_q := 28) (v := .ref 20) rfl rfl T.e17 (by decide) (T.lt (by decide)) rfl rfl ?_
      refine pm_R_lo pm_M66 (pc_q := 29) rfl rfl rfl ?_
      obtain ⟨f13, e14, b15⟩ := T.C 20 (by decide) (by decide)
      obtain ⟨l16, hx17⟩ := cl_there1 T e8 e14 ez5 c10 B11 (by decide)
      have hk18 := b15 _ _ hx17
      refine pm_R_aald pm_M66 (pc_q := 30) (v := .ref l16) rfl e14 (by decide) (by decide) (by decide) (T.lt (by decide)) (sf_in B11 (by decide) (by decide)) (by rw [hx17]; rfl) rfl ?_
      refine pm_R_ret pm_M66 (r := some (.ref l16)) rfl rfl ?_
      show pm_R _ 65 5 [.ref 16, .int a0, .int a1, pm_no] [.ref l16] _ _
      refine pm_R_lo pm_M65 (pc_q := 6) (ls_q := [.ref 16, .int a0, .int a1, .ref l16]) (st_q := []) rfl rfl rfl ?_
      refine pm_R_lo pm_M65 (pc_q := 7) rfl rfl rfl ?_
      refine pm_R_br pm_M65 (pc_q := 13) rfl rfl ?_
      refine pm_R_lo pm_M65 (pc_q := 14) rfl rfl rfl ?_
      refine pm_R_op pm_M65 (pc_q := 15) (st_q := [.int (-1), .int a1]) rfl rfl rfl ?_
      refine pm_R_icmp pm_M65 (t := 23) (pc_q := 18) rfl rfl rfl (fun c19 => ?_) (fun c19 => ?_)
      · skip
        refine pm_R_lo pm_M65 (pc_q := 24) rfl rfl rfl ?_
        refine pm_R_lo pm_M65 (pc_q := 25) rfl rfl rfl ?_
        obtain ⟨n20, f21, h22, h23, eE24, eE25, b26⟩ := (G.2.2.1 l16 hk18).2
        have kq27 := (G.2.2.1 l16 hk18).1
        refine pm_R_cv pm_M65 (pc_q := 28) (a := l16) (ra := [.int a1]) (rest := []) (ls_q := [.ref l16, .int a1]) rfl rfl (Or.inl rfl) pm_M67 (T.im hk18 (by decide) (by decide) eE24) rfl (G.ge hk18 (by decide)) (T.al hk18 (by decide)) rfl rfl (Nat.le_of_ble_eq_true rfl) rfl rfl ?_
        refine pm_R_lo pm_M67 (pc_q := 1) rfl rfl rfl ?_
        refine pm_R_ifc pm_M67 (t := 16) (pc_q := 4) rfl rfl rfl (fun c28 => ?_) (fun c28 => ?_)
        · have B29 : sf_B (-2147483648) (-1) a1 := sf_ltL c28 (sf_any a1) sf_k0
          refine pm_R_op pm_M67 (pc_q := 17) (st_q := [.int 0]) rfl rfl rfl ?_
          refine pm_R_ret pm_M67 (r := some (.int 0)) rfl rfl ?_
          show pm_R _ 65 28 [.ref 16, .int a0, .int a1, .ref l16] [.int 0] _ _
          refine pm_R_br pm_M65 (pc_q := 40) (st_q := []) rfl rfl ?_
          refine pm_R_op pm_M65 (pc_q := 42) (st_q := [.int (-2)]) rfl rfl rfl ?_
          exact pm_R_ret pm_M65 (r := some (.int (-2))) rfl rfl (K (-2) (sf_weak sf_kn2 (by decide) (by decide)))
        · have B30 : sf_B 0 2147483647 a1 := sf_leR (Int32.not_lt.mp c28) sf_k0 (sf_any a1)
          refine pm_R_lo pm_M67 (pc_q := 5) rfl rfl rfl ?_
          refine pm_R_lo pm_M67 (pc_q := 6) rfl rfl rfl ?_
          refine pm_R_get pm_M67 (pc_q := 9) (v := .int (Int32.ofNat n20)) rfl rfl (T.im hk18 (by decide) (by decide) eE24) (G.ge hk18 (by decide)) (T.al hk18 (by decide)) rfl rfl ?_
          refine pm_R_icmp pm_M67 (t := 16) (pc_q := 12) rfl rfl rfl (fun c31 => ?_) (fun c31 => ?_)
          · have B32 : sf_B 1 2147483647 a1 := sf_leR c31 (sf_ofB1 h23 h22 (by decide)) B30
            refine pm_R_op pm_M67 (pc_q := 17) (st_q := [.int 0]) rfl rfl rfl ?_
            refine pm_R_ret pm_M67 (r := some (.int 0)) rfl rfl ?_
            show pm_R _ 65 28 [.ref 16, .int a0, .int a1, .ref l16] [.int 0] _ _
            refine pm_R_br pm_M65 (pc_q := 40) (st_q := []) rfl rfl ?_
            refine pm_R_op pm_M65 (pc_q := 42) (st_q := [.int (-2)]) rfl rfl rfl ?_
            exact pm_R_ret pm_M65 (r := some (.int (-2))) rfl rfl (K (-2) (sf_weak sf_kn2 (by decide) (by decide)))
          · have B33 : sf_B 0 11 a1 := sf_ltL (Int32.not_le.mp c31) B30 (sf_ofB1 h23 h22 (by decide))
            refine pm_R_op pm_M67 (pc_q := 13) (st_q := [.int 1]) rfl rfl rfl ?_
            refine pm_R_br pm_M67 (pc_q := 17) rfl rfl ?_
            refine pm_R_ret pm_M67 (r := some (.int 1)) rfl rfl ?_
            show pm_R _ 65 28 [.ref 16, .int a0, .int a1, .ref l16] [.int 1] _ _
            refine pm_R_br pm_M65 (pc_q := 31) (st_q := []) rfl rfl ?_
            refine pm_R_lo pm_M65 (pc_q := 32) rfl rfl rfl ?_
            refine pm_R_get pm_M65 (pc_q := 35) (v := .ref (l16 + 1)) rfl rfl (T.im hk18 (by decide) (by decide) eE24) (G.ge hk18 (by decide)) (T.al hk18 (by decide)) rfl rfl ?_
            refine pm_R_lo pm_M65 (pc_q := 36) rfl rfl rfl ?_
            have q37 := cl_in1 (n := n20) (Nat.le_trans h23 (by decide)) (Int32.not_le.mp c31) B33 (by decide)
            obtain ⟨z34, ez35⟩ : ∃ y, f21 (Int32.toNatClampNeg a1) = y := ⟨_, rfl⟩
            have B36 : sf_B 0 9 z34 := ez35 ▸ b26 _
            refine pm_R_iald pm_M65 (pc_q := 37) (v := z34) rfl (T.im kq27 (by decide) (by decide) eE25) (T.al kq27 (by decide)) q37.1 ez35 rfl ?_
            refine pm_R_br pm_M65 (pc_q := 42) rfl rfl ?_
            exact pm_R_ret pm_M65 (r := some (.int z34)) rfl (pm_ret_i _) (K z34 (sf_weak B36 (by decide) (by decide)))
      · have B38 : sf_B (-1) (-1) a1 := sf_eqL (Classical.not_not.mp c19) sf_kn1
        refine pm_R_lo pm_M65 (pc_q := 19) rfl rfl rfl ?_
        obtain ⟨n39, f40, h41, h42, eE43, eE44, b45⟩ := (G.2.2.1 l16 hk18).2
        have kq46 := (G.2.2.1 l16 hk18).1
        refine pm_R_get pm_M65 (pc_q := 22) (v := .int (Int32.ofNat n39)) rfl rfl (T.im hk18 (by decide) (by decide) eE43) (G.ge hk18 (by decide)) (T.al hk18 (by decide)) rfl rfl ?_
        exact pm_R_ret pm_M65 (r := some (.int (Int32.ofNat n39))) rfl (pm_ret_i _) (K (Int32.ofNat n39) (sf_weak (sf_ofB1 h42 h41 (by decide)) (by decide) (by decide)))
    · skip
      refine pm_R_op pm_M66 (pc_q := 18) (st_q := [.null]) rfl rfl rfl ?_
      refine pm_R_br pm_M66 (pc_q := 30) rfl rfl ?_
      refine pm_R_ret pm_M66 (r := some (.null)) rfl rfl ?_
      show pm_R _ 65 5 [.ref 16, .int a0, .int a1, pm_no] [.null] _ _
      refine pm_R_lo pm_M65 (pc_q := 6) (ls_q := [.ref 16, .int a0, .int a1, .null]) (st_q := []) rfl rfl rfl ?_
      refine pm_R_lo pm_M65 (pc_q := 7) rfl rfl rfl ?_
      refine pm_R_br pm_M65 (pc_q := 10) rfl rfl ?_
      refine pm_R_op pm_M65 (pc_q := 12) (st_q := [.int (-2)]) rfl rfl rfl ?_
      exact pm_R_ret pm_M65 (r := some (.int (-2))) rfl rfl (K (-2) (sf_weak sf_kn2 (by decide) (by decide)))

theorem cl_aux5 (v0 v1 : Int) (q0 : v0 = v1 * 4) : v0 = 4 * v1 + 0 := by omega
set_option maxRecDepth 100000 in
set_option maxHeartbeats 4000000 in
/-- SilentTable$Meal.signCount -/
theorem cl_c140 {d : Nat} {ck : cl_K} {E : Nat → pm_E} {m : Nat → Int32} {o : Nat → Option Nat} {h : pm_H} {Q : Option Value → pm_H → Prop} {a : Nat} {a0 : Int32} (G : cl_G ck E) (T : cl_T ck E m o h) (hk : ck a = 9) (Ba0 : sf_B 0 1 a0) (K : ∀ (r : Int32), Q (some (.int r)) h) : pm_R (d + 1) 140 0 [.ref a, .int a0, pm_no, pm_no] [] h Q := by
  refine pm_R_op pm_M140 (pc_q := 1) (st_q := [.int 0]) rfl rfl rfl ?_
  refine pm_R_lo pm_M140 (pc_q := 2) (ls_q := [.ref a, .int a0, .int 0, pm_no]) (st_q := []) rfl rfl rfl ?_
  refine pm_R_op pm_M140 (pc_q := 3) (st_q := [.int 0]) rfl rfl rfl ?_
  refine pm_R_lo pm_M140 (pc_q := 4) (ls_q := [.ref a, .int a0, .int 0, .int 0]) (st_q := []) rfl rfl rfl ?_
  have L_269 : ∀ (N : Nat) (x2_269 : Int32) (x3_269 : Int32), sf_B (-2147483648) 2147483647 x2_269 → sf_B 0 50 x3_269 → (50 - x3_269.toInt).toNat = N → pm_R (d + 1) 140 4 [.ref a, .int a0, .int x2_269, .int x3_269] [] h Q := by
    intro N
    induction N using Nat.strongRecOn with
    | ind N ih_269 =>
      intro x2_269 x3_269 Bx2_269 Bx3_269 hN_269
      refine pm_R_lo pm_M140 (pc_q := 5) rfl rfl rfl ?_
      refine pm_R_lo pm_M140 (pc_q := 6) rfl rfl rfl ?_
      obtain ⟨s270, n271, fd272, fg273, fs274, h275, h276, h277, eE278, eE279, eE280, eE281, b282⟩ := (G.2.2.2.1 a hk).2.2.2
      have kq283 := G.2.2.2.1 a hk
      refine pm_R_get pm_M140 (pc_q := 9) (v := .int (Int32.ofNat n271)) rfl rfl (T.im hk (by decide) (by decide) eE278) (G.ge hk (by decide)) (T.al hk (by decide)) rfl rfl ?_
      refine pm_R_icmp pm_M140 (t := 42) (pc_q := 12) rfl rfl rfl (fun c284 => ?_) (fun c284 => ?_)
      · skip
        refine pm_R_lo pm_M140 (pc_q := 43) rfl rfl rfl ?_
        exact pm_R_ret pm_M140 (r := some (.int x2_269)) rfl (pm_ret_i _) (K x2_269)
      · have B285 : sf_B 0 49 x3_269 := sf_ltL (Int32.not_le.mp c284) Bx3_269 (sf_ofB h277 (by decide))
        have B286 : sf_B 1 50 (Int32.ofNat n271) := sf_ltR (Int32.not_le.mp c284) Bx3_269 (sf_ofB h277 (by decide))
        refine pm_R_lo pm_M140 (pc_q := 13) rfl rfl rfl ?_
        refine pm_R_lo pm_M140 (pc_q := 14) rfl rfl rfl ?_
        refine pm_R_cv pm_M140 (pc_q := 17) (a := a) (ra := [.int x3_269]) (rest := []) (ls_q := [.ref a, .int x3_269]) rfl rfl (Or.inl rfl) pm_M51 (T.im hk (by decide) (by decide) eE278) rfl (G.ge hk (by decide)) (T.al hk (by decide)) rfl rfl (Nat.le_of_ble_eq_true rfl) rfl rfl ?_
        refine pm_R_lo pm_M51 (pc_q := 1) rfl rfl rfl ?_
        refine pm_R_get pm_M51 (pc_q := 4) (v := .ref (a + 1)) rfl rfl (T.im hk (by decide) (by decide) eE278) (G.ge hk (by decide)) (T.al hk (by decide)) rfl rfl ?_
        refine pm_R_lo pm_M51 (pc_q := 5) rfl rfl rfl ?_
        refine pm_R_op pm_M51 (pc_q := 6) (st_q := [.int 4, .int x3_269, .ref (a + 1)]) rfl rfl rfl ?_
        refine sf_R_imul pm_M51 (pc_q := 7) rfl rfl B285 sf_k4 (by decide) (by decide) (by decide) (fun z287 e288 B289 => ?_)
        have q293 := cl_in4 (n := n271) (Nat.le_trans h277 (by decide)) (Int32.not_le.mp c284) (cl_aux5 _ _ e288) B285 (by decide) (by decide)
        obtain ⟨z290, ez291⟩ : ∃ y, fd272 (Int32.toNatClampNeg z287) = y := ⟨_, rfl⟩
        have B292 : sf_B 0 2 z290 := ez291 ▸ q293.2.2 ▸ (b282 _ q293.2.1).1
        refine pm_R_iald pm_M51 (pc_q := 8) (v := z290) rfl (T.im kq283.1 (by decide) (by decide) eE279) (T.al kq283.1 (by decide)) q293.1 ez291 rfl ?_
        refine pm_R_op pm_M51 (pc_q := 9) (st_q := [.int 2, .int z290]) rfl rfl rfl ?_
        refine pm_R_icmp pm_M51 (t := 16) (pc_q := 12) rfl rfl rfl (fun c294 => ?_) (fun c294 => ?_)
        · have B295 : sf_B 0 1 z290 := sf_neH0 c294 sf_k2 B292
          refine pm_R_op pm_M51 (pc_q := 17) (st_q := [.int 0]) rfl rfl rfl ?_
          refine pm_R_ret pm_M51 (r := some (.int 0)) rfl rfl ?_
          show pm_R _ 140 17 [.ref a, .int a0, .int x2_269, .int x3_269] [.int 0] _ _
          refine pm_R_br pm_M140 (pc_q := 36) (st_q := []) rfl rfl ?_
          refine sf_R_iinc pm_M140 (pc_q := 39) (ls_q := fun z => [.ref a, .int a0, .int x2_269, .int z]) rfl B285 rfl (by decide) (by decide) (by decide) (fun _ => rfl) rfl (fun z296 e297 B298 => ?_)
          show pm_R _ 140 39 [.ref a, .int a0, .int x2_269, .int z296] [] _ _
          refine pm_R_br pm_M140 (pc_q := 4) rfl rfl ?_
          exact ih_269 _ (sf_up hN_269 e297 B285 (by decide) (by decide)) x2_269 z296 Bx2_269 (sf_weak B298 (by decide) (by decide)) rfl
        · have B299 : sf_B 2 2 z290 := sf_eqL (Classical.not_not.mp c294) sf_k2
          refine pm_R_op pm_M51 (pc_q := 13) (st_q := [.int 1]) rfl rfl rfl ?_
          refine pm_R_br pm_M51 (pc_q := 17) rfl rfl ?_
          refine pm_R_ret pm_M51 (r := some (.int 1)) rfl rfl ?_
          show pm_R _ 140 17 [.ref a, .int a0, .int x2_269, .int x3_269] [.int 1] _ _
          refine pm_R_br pm_M140 (pc_q := 20) (st_q := []) rfl rfl ?_
          refine pm_R_lo pm_M140 (pc_q := 21) rfl rfl rfl ?_
          refine pm_R_ifc pm_M140 (t := 33) (pc_q := 24) rfl rfl rfl (fun c300 => ?_) (fun c300 => ?_)
          · have B301 : sf_B 0 0 a0 := sf_eqL c300 sf_k0
            refine sf_R_iincA pm_M140 (pc_q := 36) (ls_q := fun z => [.ref a, .int a0, .int z, .int x3_269]) rfl rfl (fun _ => rfl) rfl (fun z302 => ?_)
            show pm_R _ 140 36 [.ref a, .int a0, .int z302, .int x3_269] [] _ _
            refine sf_R_iinc pm_M140 (pc_q := 39) (ls_q := fun z => [.ref a, .int a0, .int z302, .int z]) rfl B285 rfl (by decide) (by decide) (by decide) (fun _ => rfl) rfl (fun z303 e304 B305 => ?_)
            show pm_R _ 140 39 [.ref a, .int a0, .int z302, .int z303] [] _ _
            refine pm_R_br pm_M140 (pc_q := 4) rfl rfl ?_
            exact ih_269 _ (sf_up hN_269 e304 B285 (by decide) (by decide)) z302 z303 (sf_any z302) (sf_weak B305 (by decide) (by decide)) rfl
          · have B306 : sf_B 1 1 a0 := sf_neL0 c300 sf_k0 Ba0
            refine pm_R_lo pm_M140 (pc_q := 25) rfl rfl rfl ?_
            refine pm_R_get pm_M140 (pc_q := 28) (v := .ref (a + 3)) rfl rfl (T.im hk (by decide) (by decide) eE278) (G.ge hk (by decide)) (T.al hk (by decide)) rfl rfl ?_
            refine pm_R_lo pm_M140 (pc_q := 29) rfl rfl rfl ?_
            have q310 := cl_in1 (n := n271) (Nat.le_trans h277 (by decide)) (Int32.not_le.mp c284) B285 (by decide)
            obtain ⟨z307, ez308⟩ : ∃ y, fs274 (Int32.toNatClampNeg x3_269) = y := ⟨_, rfl⟩
            refine pm_R_iald pm_M140 (pc_q := 30) (v := z307) rfl (T.im kq283.2.2.1 (by decide) (by decide) eE281) (T.al kq283.2.2.1 (by decide)) q310.1 ez308 rfl ?_
            refine pm_R_ifc pm_M140 (t := 36) (pc_q := 33) rfl rfl rfl (fun c311 => ?_) (fun c311 => ?_)
            · skip
              refine sf_R_iinc pm_M140 (pc_q := 39) (ls_q := fun z => [.ref a, .int a0, .int x2_269, .int z]) rfl B285 rfl (by decide) (by decide) (by decide) (fun _ => rfl) rfl (fun z312 e313 B314 => ?_)
              show pm_R _ 140 39 [.ref a, .int a0, .int x2_269, .int z312] [] _ _
              refine pm_R_br pm_M140 (pc_q := 4) rfl rfl ?_
              exact ih_269 _ (sf_up hN_269 e313 B285 (by decide) (by decide)) x2_269 z312 Bx2_269 (sf_weak B314 (by decide) (by decide)) rfl
            · have B315 : sf_B 0 0 z307 := sf_eqL (Classical.not_not.mp c311) sf_k0
              refine sf_R_iincA pm_M140 (pc_q := 36) (ls_q := fun z => [.ref a, .int a0, .int z, .int x3_269]) rfl rfl (fun _ => rfl) rfl (fun z316 => ?_)
              show pm_R _ 140 36 [.ref a, .int a0, .int z316, .int x3_269] [] _ _
              refine sf_R_iinc pm_M140 (pc_q := 39) (ls_q := fun z => [.ref a, .int a0, .int z316, .int z]) rfl B285 rfl (by decide) (by decide) (by decide) (fun _ => rfl) rfl (fun z317 e318 B319 => ?_)
              show pm_R _ 140 39 [.ref a, .int a0, .int z316, .int z317] [] _ _
              refine pm_R_br pm_M140 (pc_q := 4) rfl rfl ?_
              exact ih_269 _ (sf_up hN_269 e318 B285 (by decide) (by decide)) z316 z317 (sf_any z316) (sf_weak B319 (by decide) (by decide)) rfl
  exact L_269 _ 0 0 (sf_weak sf_k0 (by decide) (by decide)) (sf_weak sf_k0 (by decide) (by decide)) rfl

theorem cl_aux6 (v0 v1 v2 : Int) (q0 : v0 = v1 * 4) (q1 : v2 = v0 + 2) : v2 = 4 * v1 + 2 := by omega
theorem cl_aux7 (v0 v1 v2 : Int) (q0 : v0 = v1 * 4) (q1 : v2 = v0 + 1) : v2 = 4 * v1 + 1 := by omega
set_option maxRecDepth 100000 in
set_option maxHeartbeats 4000000 in
/-- SilentTable$Meal.passOn -/
theorem cl_c154 {d : Nat} {ck : cl_K} {E : Nat → pm_E} {m : Nat → Int32} {o : Nat → Option Nat} {h : pm_H} {Q : Option Value → pm_H → Prop} {a : Nat} {a0 : Int32} (G : cl_G ck E) (T : cl_T ck E m o h) (hk : ck a = 9) (K : ∀ (r : Int32), Q (some (.int r)) h) : pm_R (d + 1) 154 0 [.ref a, .int a0, pm_no, pm_no] [] h Q := by
  refine pm_R_lo pm_M154 (pc_q := 1) rfl rfl rfl ?_
  refine pm_R_lo pm_M154 (pc_q := 2) (ls_q := [.ref a, .int a0, .int a0, pm_no]) (st_q := []) rfl rfl rfl ?_
  refine pm_R_op pm_M154 (pc_q := 3) (st_q := [.int 0]) rfl rfl rfl ?_
  refine pm_R_lo pm_M154 (pc_q := 4) (ls_q := [.ref a, .int a0, .int a0, .int 0]) (st_q := []) rfl rfl rfl ?_
  have L_351 : ∀ (N : Nat) (x2_351 : Int32) (x3_351 : Int32), sf_B (-2147483648) 2147483647 x2_351 → sf_B 0 50 x3_351 → (50 - x3_351.toInt).toNat = N → pm_R (d + 1) 154 4 [.ref a, .int a0, .int x2_351, .int x3_351] [] h Q := by
    intro N
    induction N using Nat.strongRecOn with
    | ind N ih_351 =>
      intro x2_351 x3_351 Bx2_351 Bx3_351 hN_351
      refine pm_R_lo pm_M154 (pc_q := 5) rfl rfl rfl ?_
      refine pm_R_lo pm_M154 (pc_q := 6) rfl rfl rfl ?_
      obtain ⟨s352, n353, fd354, fg355, fs356, h357, h358, h359, eE360, eE361, eE362, eE363, b364⟩ := (G.2.2.2.1 a hk).2.2.2
      have kq365 := G.2.2.2.1 a hk
      refine pm_R_get pm_M154 (pc_q := 9) (v := .int (Int32.ofNat n353)) rfl rfl (T.im hk (by decide) (by decide) eE360) (G.ge hk (by decide)) (T.al hk (by decide)) rfl rfl ?_
      refine pm_R_icmp pm_M154 (t := 56) (pc_q := 12) rfl rfl rfl (fun c366 => ?_) (fun c366 => ?_)
      · skip
        refine pm_R_lo pm_M154 (pc_q := 57) rfl rfl rfl ?_
        exact pm_R_ret pm_M154 (r := some (.int x2_351)) rfl (pm_ret_i _) (K x2_351)
      · have B367 : sf_B 0 49 x3_351 := sf_ltL (Int32.not_le.mp c366) Bx3_351 (sf_ofB h359 (by decide))
        have B368 : sf_B 1 50 (Int32.ofNat n353) := sf_ltR (Int32.not_le.mp c366) Bx3_351 (sf_ofB h359 (by decide))
        refine pm_R_lo pm_M154 (pc_q := 13) rfl rfl rfl ?_
        refine pm_R_get pm_M154 (pc_q := 16) (v := .ref (a + 1)) rfl rfl (T.im hk (by decide) (by decide) eE360) (G.ge hk (by decide)) (T.al hk (by decide)) rfl rfl ?_
        refine pm_R_lo pm_M154 (pc_q := 17) rfl rfl rfl ?_
        refine pm_R_op pm_M154 (pc_q := 18) (st_q := [.int 4, .int x3_351, .ref (a + 1)]) rfl rfl rfl ?_
        refine sf_R_imul pm_M154 (pc_q := 19) rfl rfl B367 sf_k4 (by decide) (by decide) (by decide) (fun z369 e370 B371 => ?_)
        have q375 := cl_in4 (n := n353) (Nat.le_trans h359 (by decide)) (Int32.not_le.mp c366) (cl_aux5 _ _ e370) B367 (by decide) (by decide)
        obtain ⟨z372, ez373⟩ : ∃ y, fd354 (Int32.toNatClampNeg z369) = y := ⟨_, rfl⟩
        have B374 : sf_B 0 2 z372 := ez373 ▸ q375.2.2 ▸ (b364 _ q375.2.1).1
        refine pm_R_iald pm_M154 (pc_q := 20) (v := z372) rfl (T.im kq365.1 (by decide) (by decide) eE361) (T.al kq365.1 (by decide)) q375.1 ez373 rfl ?_
        refine pm_R_ifc pm_M154 (t := 50) (pc_q := 23) rfl rfl rfl (fun c376 => ?_) (fun c376 => ?_)
        · have B377 : sf_B 1 2 z372 := sf_neL0 c376 sf_k0 B374
          refine sf_R_iinc pm_M154 (pc_q := 53) (ls_q := fun z => [.ref a, .int a0, .int x2_351, .int z]) rfl B367 rfl (by decide) (by decide) (by decide) (fun _ => rfl) rfl (fun z378 e379 B380 => ?_)
          show pm_R _ 154 53 [.ref a, .int a0, .int x2_351, .int z378] [] _ _
          refine pm_R_br pm_M154 (pc_q := 4) rfl rfl ?_
          exact ih_351 _ (sf_up hN_351 e379 B367 (by decide) (by decide)) x2_351 z378 Bx2_351 (sf_weak B380 (by decide) (by decide)) rfl
        · have B381 : sf_B 0 0 z372 := sf_eqL (Classical.not_not.mp c376) sf_k0
          refine pm_R_lo pm_M154 (pc_q := 24) rfl rfl rfl ?_
          refine pm_R_lo pm_M154 (pc_q := 25) rfl rfl rfl ?_
          refine pm_R_get pm_M154 (pc_q := 28) (v := .ref (a + 1)) rfl rfl (T.im hk (by decide) (by decide) eE360) (G.ge hk (by decide)) (T.al hk (by decide)) rfl rfl ?_
          refine pm_R_lo pm_M154 (pc_q := 29) rfl rfl rfl ?_
          refine pm_R_op pm_M154 (pc_q := 30) (st_q := [.int 4, .int x3_351, .ref (a + 1), .int a0]) rfl rfl rfl ?_
          refine sf_R_imulV pm_M154 (pc_q := 31) rfl rfl B367 sf_k4 (by decide) (by decide) (by decide) e370 ?_
          refine pm_R_op pm_M154 (pc_q := 32) (st_q := [.int 2, .int z369, .ref (a + 1), .int a0]) rfl rfl rfl ?_
          refine sf_R_iadd pm_M154 (pc_q := 33) rfl rfl B371 sf_k2 (by decide) (by decide) (fun z382 e383 B384 => ?_)
          have q388 := cl_in4 (n := n353) (Nat.le_trans h359 (by decide)) (Int32.not_le.mp c366) (cl_aux6 _ _ _ e370 e383) B367 (by decide) (by decide)
          obtain ⟨z385, ez386⟩ : ∃ y, fd354 (Int32.toNatClampNeg z382) = y := ⟨_, rfl⟩
          have B387 : sf_B (-1) 9 z385 := ez386 ▸ q388.2.2 ▸ (b364 _ q388.2.1).2.2.1
          refine pm_R_iald pm_M154 (pc_q := 34) (v := z385) rfl (T.im kq365.1 (by decide) (by decide) eE361) (T.al kq365.1 (by decide)) q388.1 ez386 rfl ?_
          refine sf_R_iany pm_M154 (pc_q := 35) (st := []) rfl rfl rfl (fun z392 => ?_)
          refine pm_R_op pm_M154 (pc_q := 36) (st_q := [.int 1, .int z392]) rfl rfl rfl ?_
          refine sf_R_iandE pm_M154 (pc_q := 37) rfl rfl sf_k1 (by decide) (fun z393 e394 B395 => ?_)
          refine pm_R_ifc pm_M154 (t := 50) (pc_q := 40) rfl rfl rfl (fun c396 => ?_) (fun c396 => ?_)
          · have B397 : sf_B 0 0 z393 := sf_eqL c396 sf_k0
            refine sf_R_iinc pm_M154 (pc_q := 53) (ls_q := fun z => [.ref a, .int a0, .int x2_351, .int z]) rfl B367 rfl (by decide) (by decide) (by decide) (fun _ => rfl) rfl (fun z398 e399 B400 => ?_)
            show pm_R _ 154 53 [.ref a, .int a0, .int x2_351, .int z398] [] _ _
            refine pm_R_br pm_M154 (pc_q := 4) rfl rfl ?_
            exact ih_351 _ (sf_up hN_351 e399 B367 (by decide) (by decide)) x2_351 z398 Bx2_351 (sf_weak B400 (by decide) (by decide)) rfl
          · have B401 : sf_B 1 1 z393 := sf_neL0 c396 sf_k0 B395
            refine pm_R_lo pm_M154 (pc_q := 41) rfl rfl rfl ?_
            refine pm_R_op pm_M154 (pc_q := 42) (st_q := [.int 1, .int x2_351]) rfl rfl rfl ?_
            refine pm_R_lo pm_M154 (pc_q := 43) rfl rfl rfl ?_
            refine pm_R_lo pm_M154 (pc_q := 44) rfl rfl rfl ?_
            refine pm_R_cv pm_M154 (pc_q := 47) (a := a) (ra := [.int x3_351]) (rest := [.int 1, .int x2_351]) (ls_q := [.ref a, .int x3_351]) rfl rfl (Or.inl rfl) pm_M52 (T.im hk (by decide) (by decide) eE360) rfl (G.ge hk (by decide)) (T.al hk (by decide)) rfl rfl (Nat.le_of_ble_eq_true rfl) rfl rfl ?_
            refine pm_R_lo pm_M52 (pc_q := 1) rfl rfl rfl ?_
            refine pm_R_get pm_M52 (pc_q := 4) (v := .ref (a + 1)) rfl rfl (T.im hk (by decide) (by decide) eE360) (G.ge hk (by decide)) (T.al hk (by decide)) rfl rfl ?_
            refine pm_R_lo pm_M52 (pc_q := 5) rfl rfl rfl ?_
            refine pm_R_op pm_M52 (pc_q := 6) (st_q := [.int 4, .int x3_351, .ref (a + 1)]) rfl rfl rfl ?_
            refine sf_R_imulV pm_M52 (pc_q := 7) rfl rfl B367 sf_k4 (by decide) (by decide) (by decide) e370 ?_
            refine pm_R_op pm_M52 (pc_q := 8) (st_q := [.int 1, .int z369, .ref (a + 1)]) rfl rfl rfl ?_
            refine sf_R_iadd pm_M52 (pc_q := 9) rfl rfl B371 sf_k1 (by decide) (by decide) (fun z402 e403 B404 => ?_)
            have q408 := cl_in4 (n := n353) (Nat.le_trans h359 (by decide)) (Int32.not_le.mp c366) (cl_aux7 _ _ _ e370 e403) B367 (by decide) (by decide)
            obtain ⟨z405, ez406⟩ : ∃ y, fd354 (Int32.toNatClampNeg z402) = y := ⟨_, rfl⟩
            have B407 : sf_B 0 5 z405 := ez406 ▸ q408.2.2 ▸ (cl_seat (b364 _ q408.2.1).2.1 h358)
            refine pm_R_iald pm_M52 (pc_q := 10) (v := z405) rfl (T.im kq365.1 (by decide) (by decide) eE361) (T.al kq365.1 (by decide)) q408.1 ez406 rfl ?_
            refine pm_R_ret pm_M52 (r := some (.int z405)) rfl (pm_ret_i _) ?_
            show pm_R _ 154 47 [.ref a, .int a0, .int x2_351, .int x3_351] [.int z405, .int 1, .int x2_351] _ _
            refine sf_R_iany pm_M154 (pc_q := 48) (st := [.int x2_351]) rfl rfl rfl (fun z412 => ?_)
            refine sf_R_iany pm_M154 (pc_q := 49) (st := []) rfl rfl rfl (fun z416 => ?_)
            refine pm_R_lo pm_M154 (pc_q := 50) (ls_q := [.ref a, .int a0, .int z416, .int x3_351]) (st_q := []) rfl rfl rfl ?_
            refine sf_R_iinc pm_M154 (pc_q := 53) (ls_q := fun z => [.ref a, .int a0, .int z416, .int z]) rfl B367 rfl (by decide) (by decide) (by decide) (fun _ => rfl) rfl (fun z417 e418 B419 => ?_)
            show pm_R _ 154 53 [.ref a, .int a0, .int z416, .int z417] [] _ _
            refine pm_R_br pm_M154 (pc_q := 4) rfl rfl ?_
            exact ih_351 _ (sf_up hN_351 e418 B367 (by decide) (by decide)) z416 z417 (sf_any z416) (sf_weak B419 (by decide) (by decide)) rfl
  exact L_351 _ a0 0 (sf_any a0) (sf_weak sf_k0 (by decide) (by decide)) rfl

set_option maxRecDepth 100000 in
set_option maxHeartbeats 4000000 in
/-- SilentTable$Meal.fewestHands -/
theorem cl_c153 {d : Nat} {ck : cl_K} {E : Nat → pm_E} {m : Nat → Int32} {o : Nat → Option Nat} {h : pm_H} {Q : Option Value → pm_H → Prop} {a : Nat} {a0 : Int32} {a1 : Int32} (G : cl_G ck E) (T : cl_T ck E m o h) (hk : ck a = 9) (Ba0 : sf_B 0 5 a0) (Ba1 : sf_B 0 5 a1) (K : ∀ (r : Int32), (r = -1 ∨ 1 ≤ r.toInt) → sf_B (-1) 5 r → Q (some (.int r)) h) : pm_R (d + 2) 153 0 [.ref a, .int a0, .int a1, pm_no, pm_no] [] h Q := by
  refine pm_R_op pm_M153 (pc_q := 1) (st_q := [.int 1]) rfl rfl rfl ?_
  refine pm_R_lo pm_M153 (pc_q := 2) rfl rfl rfl ?_
  refine sf_R_iany pm_M153 (pc_q := 3) (st := []) rfl rfl rfl (fun z4 => ?_)
  refine pm_R_lo pm_M153 (pc_q := 4) (ls_q := [.ref a, .int a0, .int a1, .int z4, pm_no]) (st_q := []) rfl rfl rfl ?_
  refine pm_R_op pm_M153 (pc_q := 5) (st_q := [.int 1]) rfl rfl rfl ?_
  refine pm_R_lo pm_M153 (pc_q := 7) (ls_q := [.ref a, .int a0, .int a1, .int z4, .int 1]) (st_q := []) rfl rfl rfl ?_
  have L_194 : ∀ (N : Nat) (x3_194 : Int32) (x4_194 : Int32), sf_B (-2147483648) 2147483647 x3_194 → sf_B 1 6 x4_194 → (6 - x4_194.toInt).toNat = N → pm_R (d + 2) 153 7 [.ref a, .int a0, .int a1, .int x3_194, .int x4_194] [] h Q := by
    intro N
    induction N using Nat.strongRecOn with
    | ind N ih_194 =>
      intro x3_194 x4_194 Bx3_194 Bx4_194 hN_194
      refine pm_R_lo pm_M153 (pc_q := 9) rfl rfl rfl ?_
      refine pm_R_op pm_M153 (pc_q := 11) (st_q := [.int 6, .int x4_194]) rfl rfl rfl ?_
      refine pm_R_icmp pm_M153 (t := 37) (pc_q := 14) rfl rfl rfl (fun c195 => ?_) (fun c195 => ?_)
      · have B196 : sf_B 6 6 x4_194 := sf_leR c195 sf_k6 Bx4_194
        refine pm_R_op pm_M153 (pc_q := 38) (st_q := [.int (-1)]) rfl rfl rfl ?_
        exact pm_R_ret pm_M153 (r := some (.int (-1))) rfl rfl (K (-1) (Or.inl rfl) (sf_weak sf_kn1 (by decide) (by decide)))
      · have B197 : sf_B 1 5 x4_194 := sf_ltL (Int32.not_le.mp c195) Bx4_194 sf_k6
        refine pm_R_lo pm_M153 (pc_q := 15) rfl rfl rfl ?_
        refine pm_R_lo pm_M153 (pc_q := 16) rfl rfl rfl ?_
        obtain ⟨s198, n199, fd200, fg201, fs202, h203, h204, h205, eE206, eE207, eE208, eE209, b210⟩ := (G.2.2.2.1 a hk).2.2.2
        have kq211 := G.2.2.2.1 a hk
        refine pm_R_cv pm_M153 (pc_q := 19) (a := a) (ra := [.int x3_194]) (rest := []) (ls_q := [.ref a, .int x3_194, pm_no, pm_no]) rfl rfl (Or.inl rfl) pm_M154 (T.im hk (by decide) (by decide) eE206) rfl (G.ge hk (by decide)) (T.al hk (by decide)) rfl rfl (Nat.le_of_ble_eq_true rfl) rfl rfl ?_
        refine cl_c154 (d := d + 0) G T hk (fun r212 => ?_)
        show pm_R _ 153 19 [.ref a, .int a0, .int a1, .int x3_194, .int x4_194] [.int r212] _ _
        refine pm_R_lo pm_M153 (pc_q := 20) (ls_q := [.ref a, .int a0, .int a1, .int r212, .int x4_194]) (st_q := []) rfl rfl rfl ?_
        refine pm_R_lo pm_M153 (pc_q := 21) rfl rfl rfl ?_
        refine pm_R_lo pm_M153 (pc_q := 22) rfl rfl rfl ?_
        refine sf_R_iany pm_M153 (pc_q := 23) (st := []) rfl rfl rfl (fun z222 => ?_)
        refine pm_R_op pm_M153 (pc_q := 24) (st_q := [.int 1, .int z222]) rfl rfl rfl ?_
        refine sf_R_iandE pm_M153 (pc_q := 25) rfl rfl sf_k1 (by decide) (fun z223 e224 B225 => ?_)
        refine pm_R_ifc pm_M153 (t := 31) (pc_q := 28) rfl rfl rfl (fun c226 => ?_) (fun c226 => ?_)
        · have B227 : sf_B 0 0 z223 := sf_eqL c226 sf_k0
          refine sf_R_iinc pm_M153 (pc_q := 34) (ls_q := fun z => [.ref a, .int a0, .int a1, .int r212, .int z]) rfl B197 rfl (by decide) (by decide) (by decide) (fun _ => rfl) rfl (fun z228 e229 B230 => ?_)
          show pm_R _ 153 34 [.ref a, .int a0, .int a1, .int r212, .int z228] [] _ _
          refine pm_R_br pm_M153 (pc_q := 7) rfl rfl ?_
          exact ih_194 _ (sf_up hN_194 e229 B197 (by decide) (by decide)) r212 z228 (sf_any r212) (sf_weak B230 (by decide) (by decide)) rfl
        · have B231 : sf_B 1 1 z223 := sf_neL0 c226 sf_k0 B225
          refine pm_R_lo pm_M153 (pc_q := 30) rfl rfl rfl ?_
          exact pm_R_ret pm_M153 (r := some (.int x4_194)) rfl (pm_ret_i _) (K x4_194 (Or.inr B197.1) (sf_weak B197 (by decide) (by decide)))
  exact L_194 _ z4 1 (sf_any z4) (sf_weak sf_k1 (by decide) (by decide)) rfl

set_option maxRecDepth 100000 in
set_option maxHeartbeats 4000000 in
/-- SilentTable$SignList.handsTo -/
theorem cl_c119 {d : Nat} {ck : cl_K} {E : Nat → pm_E} {m : Nat → Int32} {o : Nat → Option Nat} {h : pm_H} {Q : Option Value → pm_H → Prop} {a : Nat} {a0 : Int32} {a1 : Int32} (G : cl_G ck E) (T : cl_T ck E m o h) (hk : ck a = 1) (Ba0 : sf_B 0 9 a0) (Ba1 : sf_B 0 9 a1) (K : ∀ (r : Int32), sf_B (-1) 9 r → Q (some (.int r)) h) : pm_R (d + 0) 119 0 [.ref a, .int a0, .int a1, pm_no] [] h Q := by
  refine pm_R_op pm_M119 (pc_q := 1) (st_q := [.int 0]) rfl rfl rfl ?_
  refine pm_R_lo pm_M119 (pc_q := 2) (ls_q := [.ref a, .int a0, .int a1, .int 0]) (st_q := []) rfl rfl rfl ?_
  have L_275 : ∀ (N : Nat) (x3_275 : Int32), sf_B 0 10 x3_275 → (10 - x3_275.toInt).toNat = N → pm_R (d + 0) 119 2 [.ref a, .int a0, .int a1, .int x3_275] [] h Q := by
    intro N
    induction N using Nat.strongRecOn with
    | ind N ih_275 =>
      intro x3_275 Bx3_275 hN_275
      refine pm_R_lo pm_M119 (pc_q := 3) rfl rfl rfl ?_
      refine pm_R_op pm_M119 (pc_q := 5) (st_q := [.int 9, .int x3_275]) rfl rfl rfl ?_
      refine pm_R_icmp pm_M119 (t := 34) (pc_q := 8) rfl rfl rfl (fun c276 => ?_) (fun c276 => ?_)
      · have B277 : sf_B 10 10 x3_275 := sf_ltR c276 sf_k9 Bx3_275
        refine pm_R_op pm_M119 (pc_q := 35) (st_q := [.int (-1)]) rfl rfl rfl ?_
        exact pm_R_ret pm_M119 (r := some (.int (-1))) rfl rfl (K (-1) (sf_weak sf_kn1 (by decide) (by decide)))
      · have B278 : sf_B 0 9 x3_275 := sf_leL (Int32.not_lt.mp c276) Bx3_275 sf_k9
        refine pm_R_lo pm_M119 (pc_q := 9) rfl rfl rfl ?_
        obtain ⟨rc279, tc280, rs281, fv282, fw283, fr284, ft285, fn286, h287, h288, B289, eE290, eE291, eE292, eE293, eE294, eE295, b296, b297, b298⟩ := (G.2.1 a hk).2.2.2.2.2
        have kq299 := G.2.1 a hk
        refine pm_R_get pm_M119 (pc_q := 12) (v := .ref (a + 2)) rfl rfl (T.im hk (by decide) (by decide) eE290) (G.ge hk (by decide)) (T.al hk (by decide)) rfl rfl ?_
        refine pm_R_lo pm_M119 (pc_q := 13) rfl rfl rfl ?_
        refine pm_R_op pm_M119 (pc_q := 15) (st_q := [.int 10, .int x3_275, .ref (a + 2)]) rfl rfl rfl ?_
        refine sf_R_imul pm_M119 (pc_q := 16) rfl rfl B278 sf_k10 (by decide) (by decide) (by decide) (fun z300 e301 B302 => ?_)
        refine pm_R_lo pm_M119 (pc_q := 17) rfl rfl rfl ?_
        refine sf_R_iadd pm_M119 (pc_q := 18) rfl rfl B302 Ba0 (by decide) (by decide) (fun z303 e304 B305 => ?_)
        obtain ⟨z306, ez307⟩ : ∃ y, fw283 (Int32.toNatClampNeg z303) = y := ⟨_, rfl⟩
        refine pm_R_iald pm_M119 (pc_q := 19) (v := z306) rfl (T.im kq299.2.1 (by decide) (by decide) eE292) (T.al kq299.2.1 (by decide)) (sf_in B305 (by decide) (by decide)) ez307 rfl ?_
        refine pm_R_lo pm_M119 (pc_q := 20) rfl rfl rfl ?_
        refine sf_R_iany pm_M119 (pc_q := 21) (st := []) rfl rfl rfl (fun z312 => ?_)
        refine pm_R_op pm_M119 (pc_q := 22) (st_q := [.int 1, .int z312]) rfl rfl rfl ?_
        refine sf_R_iandE pm_M119 (pc_q := 23) rfl rfl sf_k1 (by decide) (fun z313 e314 B315 => ?_)
        refine pm_R_ifc pm_M119 (t := 28) (pc_q := 26) rfl rfl rfl (fun c316 => ?_) (fun c316 => ?_)
        · have B317 : sf_B 0 0 z313 := sf_eqL c316 sf_k0
          refine sf_R_iinc pm_M119 (pc_q := 31) (ls_q := fun z => [.ref a, .int a0, .int a1, .int z]) rfl B278 rfl (by decide) (by decide) (by decide) (fun _ => rfl) rfl (fun z318 e319 B320 => ?_)
          show pm_R _ 119 31 [.ref a, .int a0, .int a1, .int z318] [] _ _
          refine pm_R_br pm_M119 (pc_q := 2) rfl rfl ?_
          exact ih_275 _ (sf_up hN_275 e319 B278 (by decide) (by decide)) z318 (sf_weak B320 (by decide) (by decide)) rfl
        · have B321 : sf_B 1 1 z313 := sf_neL0 c316 sf_k0 B315
          refine pm_R_lo pm_M119 (pc_q := 27) rfl rfl rfl ?_
          exact pm_R_ret pm_M119 (r := some (.int x3_275)) rfl (pm_ret_i _) (K x3_275 (sf_weak B278 (by decide) (by decide)))
  exact L_275 _ 0 (sf_weak sf_k0 (by decide) (by decide)) rfl

set_option maxRecDepth 100000 in
set_option maxHeartbeats 4000000 in
/-- SilentTable$Meal.loudest -/
theorem cl_c159 {d : Nat} {ck : cl_K} {E : Nat → pm_E} {m : Nat → Int32} {o : Nat → Option Nat} {h : pm_H} {Q : Option Value → pm_H → Prop} {a : Nat} (G : cl_G ck E) (T : cl_T ck E m o h) (hk : ck a = 9) (K : ∀ (r : Int32), sf_B (-1) 2147483647 r → Q (some (.int r)) h) : pm_R (d + 1) 159 0 [.ref a, pm_no, pm_no, pm_no, pm_no, pm_no] [] h Q := by
  refine pm_R_op pm_M159 (pc_q := 1) (st_q := [.int (-1)]) rfl rfl rfl ?_
  refine pm_R_lo pm_M159 (pc_q := 2) (ls_q := [.ref a, .int (-1), pm_no, pm_no, pm_no, pm_no]) (st_q := []) rfl rfl rfl ?_
  refine pm_R_op pm_M159 (pc_q := 3) (st_q := [.int 0]) rfl rfl rfl ?_
  refine pm_R_lo pm_M159 (pc_q := 4) (ls_q := [.ref a, .int (-1), .int 0, pm_no, pm_no, pm_no]) (st_q := []) rfl rfl rfl ?_
  refine pm_R_op pm_M159 (pc_q := 5) (st_q := [.int 0]) rfl rfl rfl ?_
  refine pm_R_lo pm_M159 (pc_q := 6) (ls_q := [.ref a, .int (-1), .int 0, .int 0, pm_no, pm_no]) (st_q := []) rfl rfl rfl ?_
  have L_2062 : ∀ (N : Nat) (x1_2062 : Int32) (x2_2062 : Int32) (x3_2062 : Int32) (g4_2062 : Value) (g5_2062 : Value), sf_B (-1) 2147483647 x1_2062 → sf_B 0 2147483647 x2_2062 → sf_B 0 10 x3_2062 → g4_2062.category = 1 → g5_2062.category = 1 → (10 - x3_2062.toInt).toNat = N → pm_R (d + 1) 159 6 [.ref a, .int x1_2062, .int x2_2062, .int x3_2062, g4_2062, g5_2062] [] h Q := by
    intro N
    induction N using Nat.strongRecOn with
    | ind N ih_2062 =>
      intro x1_2062 x2_2062 x3_2062 g4_2062 g5_2062 Bx1_2062 Bx2_2062 Bx3_2062 Cg4_2062 Cg5_2062 hN_2062
      refine pm_R_lo pm_M159 (pc_q := 7) rfl rfl rfl ?_
      refine pm_R_op pm_M159 (pc_q := 9) (st_q := [.int 10, .int x3_2062]) rfl rfl rfl ?_
      refine pm_R_icmp pm_M159 (t := 72) (pc_q := 12) rfl rfl rfl (fun c2063 => ?_) (fun c2063 => ?_)
      · have B2064 : sf_B 10 10 x3_2062 := sf_leR c2063 sf_k10 Bx3_2062
        refine pm_R_lo pm_M159 (pc_q := 73) rfl rfl rfl ?_
        exact pm_R_ret pm_M159 (r := some (.int x1_2062)) rfl (pm_ret_i _) (K x1_2062 Bx1_2062)
      · have B2065 : sf_B 0 9 x3_2062 := sf_ltL (Int32.not_le.mp c2063) Bx3_2062 sf_k10
        refine pm_R_op pm_M159 (pc_q := 13) (st_q := [.int 0]) rfl rfl rfl ?_
        refine pm_R_lo pm_M159 (pc_q := 15) (ls_q := [.ref a, .int x1_2062, .int x2_2062, .int x3_2062, .int 0, g5_2062]) (st_q := []) rfl rfl rfl ?_
        refine pm_R_op pm_M159 (pc_q := 16) (st_q := [.int 0]) rfl rfl rfl ?_
        refine pm_R_lo pm_M159 (pc_q := 18) (ls_q := [.ref a, .int x1_2062, .int x2_2062, .int x3_2062, .int 0, .int 0]) (st_q := []) rfl rfl rfl ?_
        have L_2409 : ∀ (N : Nat) (x4_2409 : Int32) (x5_2409 : Int32), sf_B (-2147483648) 2147483647 x4_2409 → sf_B 0 50 x5_2409 → (50 - x5_2409.toInt).toNat = N → pm_R (d + 1) 159 18 [.ref a, .int x1_2062, .int x2_2062, .int x3_2062, .int x4_2409, .int x5_2409] [] h Q := by
          intro N
          induction N using Nat.strongRecOn with
          | ind N ih_2409 =>
            intro x4_2409 x5_2409 Bx4_2409 Bx5_2409 hN_2409
            refine pm_R_lo pm_M159 (pc_q := 20) rfl rfl rfl ?_
            refine pm_R_lo pm_M159 (pc_q := 21) rfl rfl rfl ?_
            obtain ⟨s2410, n2411, fd2412, fg2413, fs2414, h2415, h2416, h2417, eE2418, eE2419, eE2420, eE2421, b2422⟩ := (G.2.2.2.1 a hk).2.2.2
            have kq2423 := G.2.2.2.1 a hk
            refine pm_R_get pm_M159 (pc_q := 24) (v := .int (Int32.ofNat n2411)) rfl rfl (T.im hk (by decide) (by decide) eE2418) (G.ge hk (by decide)) (T.al hk (by decide)) rfl rfl ?_
            refine pm_R_icmp pm_M159 (t := 55) (pc_q := 27) rfl rfl rfl (fun c2424 => ?_) (fun c2424 => ?_)
            · skip
              refine pm_R_lo pm_M159 (pc_q := 57) rfl rfl rfl ?_
              refine pm_R_lo pm_M159 (pc_q := 58) rfl rfl rfl ?_
              refine pm_R_icmp pm_M159 (t := 66) (pc_q := 61) rfl rfl rfl (fun c2425 => ?_) (fun c2425 => ?_)
              · skip
                refine sf_R_iinc pm_M159 (pc_q := 69) (ls_q := fun z => [.ref a, .int x1_2062, .int x2_2062, .int z, .int x4_2409, .int x5_2409]) rfl B2065 rfl (by decide) (by decide) (by decide) (fun _ => rfl) rfl (fun z2426 e2427 B2428 => ?_)
                show pm_R _ 159 69 [.ref a, .int x1_2062, .int x2_2062, .int z2426, .int x4_2409, .int x5_2409] [] _ _
                refine pm_R_br pm_M159 (pc_q := 6) rfl rfl ?_
                exact ih_2062 _ (sf_up hN_2062 e2427 B2065 (by decide) (by decide)) x1_2062 x2_2062 z2426 (.int x4_2409) (.int x5_2409) Bx1_2062 Bx2_2062 (sf_weak B2428 (by decide) (by decide)) rfl rfl rfl
              · have B2429 : sf_B 0 2147483646 x2_2062 := sf_ltL (Int32.not_le.mp c2425) Bx2_2062 Bx4_2409
                have B2430 : sf_B 1 2147483647 x4_2409 := sf_ltR (Int32.not_le.mp c2425) Bx2_2062 Bx4_2409
                refine pm_R_lo pm_M159 (pc_q := 62) rfl rfl rfl ?_
                refine pm_R_lo pm_M159 (pc_q := 63) (ls_q := [.ref a, .int x3_2062, .int x2_2062, .int x3_2062, .int x4_2409, .int x5_2409]) (st_q := []) rfl rfl rfl ?_
                refine pm_R_lo pm_M159 (pc_q := 65) rfl rfl rfl ?_
                refine pm_R_lo pm_M159 (pc_q := 66) (ls_q := [.ref a, .int x3_2062, .int x4_2409, .int x3_2062, .int x4_2409, .int x5_2409]) (st_q := []) rfl rfl rfl ?_
                refine sf_R_iinc pm_M159 (pc_q := 69) (ls_q := fun z => [.ref a, .int x3_2062, .int x4_2409, .int z, .int x4_2409, .int x5_2409]) rfl B2065 rfl (by decide) (by decide) (by decide) (fun _ => rfl) rfl (fun z2431 e2432 B2433 => ?_)
                show pm_R _ 159 69 [.ref a, .int x3_2062, .int x4_2409, .int z2431, .int x4_2409, .int x5_2409] [] _ _
                refine pm_R_br pm_M159 (pc_q := 6) rfl rfl ?_
                exact ih_2062 _ (sf_up hN_2062 e2432 B2065 (by decide) (by decide)) x3_2062 x4_2409 z2431 (.int x4_2409) (.int x5_2409) (sf_weak B2065 (by decide) (by decide)) (sf_weak B2430 (by decide) (by decide)) (sf_weak B2433 (by decide) (by decide)) rfl rfl rfl
            · have B2434 : sf_B 0 49 x5_2409 := sf_ltL (Int32.not_le.mp c2424) Bx5_2409 (sf_ofB h2417 (by decide))
              have B2435 : sf_B 1 50 (Int32.ofNat n2411) := sf_ltR (Int32.not_le.mp c2424) Bx5_2409 (sf_ofB h2417 (by decide))
              refine pm_R_lo pm_M159 (pc_q := 28) rfl rfl rfl ?_
              refine pm_R_lo pm_M159 (pc_q := 30) rfl rfl rfl ?_
              refine pm_R_cv pm_M159 (pc_q := 33) (a := a) (ra := [.int x5_2409]) (rest := []) (ls_q := [.ref a, .int x5_2409]) rfl rfl (Or.inl rfl) pm_M51 (T.im hk (by decide) (by decide) eE2418) rfl (G.ge hk (by decide)) (T.al hk (by decide)) rfl rfl (Nat.le_of_ble_eq_true rfl) rfl rfl ?_
              refine pm_R_lo pm_M51 (pc_q := 1) rfl rfl rfl ?_
              refine pm_R_get pm_M51 (pc_q := 4) (v := .ref (a + 1)) rfl rfl (T.im hk (by decide) (by decide) eE2418) (G.ge hk (by decide)) (T.al hk (by decide)) rfl rfl ?_
              refine pm_R_lo pm_M51 (pc_q := 5) rfl rfl rfl ?_
              refine pm_R_op pm_M51 (pc_q := 6) (st_q := [.int 4, .int x5_2409, .ref (a + 1)]) rfl rfl rfl ?_
              refine sf_R_imul pm_M51 (pc_q := 7) rfl rfl B2434 sf_k4 (by decide) (by decide) (by decide) (fun z2436 e2437 B2438 => ?_)
              have q2442 := cl_in4 (n := n2411) (Nat.le_trans h2417 (by decide)) (Int32.not_le.mp c2424) (cl_aux5 _ _ e2437) B2434 (by decide) (by decide)
              obtain ⟨z2439, ez2440⟩ : ∃ y, fd2412 (Int32.toNatClampNeg z2436) = y := ⟨_, rfl⟩
              have B2441 : sf_B 0 2 z2439 := ez2440 ▸ q2442.2.2 ▸ (b2422 _ q2442.2.1).1
              refine pm_R_iald pm_M51 (pc_q := 8) (v := z2439) rfl (T.im kq2423.1 (by decide) (by decide) eE2419) (T.al kq2423.1 (by decide)) q2442.1 ez2440 rfl ?_
              refine pm_R_op pm_M51 (pc_q := 9) (st_q := [.int 2, .int z2439]) rfl rfl rfl ?_
              refine pm_R_icmp pm_M51 (t := 16) (pc_q := 12) rfl rfl rfl (fun c2443 => ?_) (fun c2443 => ?_)
              · have B2444 : sf_B 0 1 z2439 := sf_neH0 c2443 sf_k2 B2441
                refine pm_R_op pm_M51 (pc_q := 17) (st_q := [.int 0]) rfl rfl rfl ?_
                refine pm_R_ret pm_M51 (r := some (.int 0)) rfl rfl ?_
                show pm_R _ 159 33 [.ref a, .int x1_2062, .int x2_2062, .int x3_2062, .int x4_2409, .int x5_2409] [.int 0] _ _
                refine pm_R_br pm_M159 (pc_q := 49) (st_q := []) rfl rfl ?_
                refine sf_R_iinc pm_M159 (pc_q := 52) (ls_q := fun z => [.ref a, .int x1_2062, .int x2_2062, .int x3_2062, .int x4_2409, .int z]) rfl B2434 rfl (by decide) (by decide) (by decide) (fun _ => rfl) rfl (fun z2445 e2446 B2447 => ?_)
                show pm_R _ 159 52 [.ref a, .int x1_2062, .int x2_2062, .int x3_2062, .int x4_2409, .int z2445] [] _ _
                refine pm_R_br pm_M159 (pc_q := 18) rfl rfl ?_
                exact ih_2409 _ (sf_up hN_2409 e2446 B2434 (by decide) (by decide)) x4_2409 z2445 Bx4_2409 (sf_weak B2447 (by decide) (by decide)) rfl
              · have B2448 : sf_B 2 2 z2439 := sf_eqL (Classical.not_not.mp c2443) sf_k2
                refine pm_R_op pm_M51 (pc_q := 13) (st_q := [.int 1]) rfl rfl rfl ?_
                refine pm_R_br pm_M51 (pc_q := 17) rfl rfl ?_
                refine pm_R_ret pm_M51 (r := some (.int 1)) rfl rfl ?_
                show pm_R _ 159 33 [.ref a, .int x1_2062, .int x2_2062, .int x3_2062, .int x4_2409, .int x5_2409] [.int 1] _ _
                refine pm_R_br pm_M159 (pc_q := 36) (st_q := []) rfl rfl ?_
                refine pm_R_lo pm_M159 (pc_q := 37) rfl rfl rfl ?_
                refine pm_R_lo pm_M159 (pc_q := 39) rfl rfl rfl ?_
                refine pm_R_cv pm_M159 (pc_q := 42) (a := a) (ra := [.int x5_2409]) (rest := []) (ls_q := [.ref a, .int x5_2409]) rfl rfl (Or.inl rfl) pm_M147 (T.im hk (by decide) (by decide) eE2418) rfl (G.ge hk (by decide)) (T.al hk (by decide)) rfl rfl (Nat.le_of_ble_eq_true rfl) rfl rfl ?_
                refine pm_R_lo pm_M147 (pc_q := 1) rfl rfl rfl ?_
                refine pm_R_get pm_M147 (pc_q := 4) (v := .ref (a + 1)) rfl rfl (T.im hk (by decide) (by decide) eE2418) (G.ge hk (by decide)) (T.al hk (by decide)) rfl rfl ?_
                refine pm_R_lo pm_M147 (pc_q := 5) rfl rfl rfl ?_
                refine pm_R_op pm_M147 (pc_q := 6) (st_q := [.int 4, .int x5_2409, .ref (a + 1)]) rfl rfl rfl ?_
                refine sf_R_imulV pm_M147 (pc_q := 7) rfl rfl B2434 sf_k4 (by decide) (by decide) (by decide) e2437 ?_
                refine pm_R_op pm_M147 (pc_q := 8) (st_q := [.int 2, .int z2436, .ref (a + 1)]) rfl rfl rfl ?_
                refine sf_R_iadd pm_M147 (pc_q := 9) rfl rfl B2438 sf_k2 (by decide) (by decide) (fun z2449 e2450 B2451 => ?_)
                have q2455 := cl_in4 (n := n2411) (Nat.le_trans h2417 (by decide)) (Int32.not_le.mp c2424) (cl_aux6 _ _ _ e2437 e2450) B2434 (by decide) (by decide)
                obtain ⟨z2452, ez2453⟩ : ∃ y, fd2412 (Int32.toNatClampNeg z2449) = y := ⟨_, rfl⟩
                have B2454 : sf_B (-1) 9 z2452 := ez2453 ▸ q2455.2.2 ▸ (b2422 _ q2455.2.1).2.2.1
                have B2456 : sf_B 0 9 z2452 := cl_sign (b2422 _ q2455.2.1).2.2.2 q2442.2.2 ez2440 (Classical.not_not.mp c2443) q2455.2.2 ez2453 B2454 (by decide)
                refine pm_R_iald pm_M147 (pc_q := 10) (v := z2452) rfl (T.im kq2423.1 (by decide) (by decide) eE2419) (T.al kq2423.1 (by decide)) q2455.1 ez2453 rfl ?_
                refine pm_R_ret pm_M147 (r := some (.int z2452)) rfl (pm_ret_i _) ?_
                show pm_R _ 159 42 [.ref a, .int x1_2062, .int x2_2062, .int x3_2062, .int x4_2409, .int x5_2409] [.int z2452] _ _
                refine pm_R_lo pm_M159 (pc_q := 43) rfl rfl rfl ?_
                refine pm_R_icmp pm_M159 (t := 49) (pc_q := 46) rfl rfl rfl (fun c2457 => ?_) (fun c2457 => ?_)
                · skip
                  refine sf_R_iinc pm_M159 (pc_q := 52) (ls_q := fun z => [.ref a, .int x1_2062, .int x2_2062, .int x3_2062, .int x4_2409, .int z]) rfl B2434 rfl (by decide) (by decide) (by decide) (fun _ => rfl) rfl (fun z2458 e2459 B2460 => ?_)
                  show pm_R _ 159 52 [.ref a, .int x1_2062, .int x2_2062, .int x3_2062, .int x4_2409, .int z2458] [] _ _
                  refine pm_R_br pm_M159 (pc_q := 18) rfl rfl ?_
                  exact ih_2409 _ (sf_up hN_2409 e2459 B2434 (by decide) (by decide)) x4_2409 z2458 Bx4_2409 (sf_weak B2460 (by decide) (by decide)) rfl
                · refine sf_R_iincA pm_M159 (pc_q := 49) (ls_q := fun z => [.ref a, .int x1_2062, .int x2_2062, .int x3_2062, .int z, .int x5_2409]) rfl rfl (fun _ => rfl) rfl (fun z2461 => ?_)
                  show pm_R _ 159 49 [.ref a, .int x1_2062, .int x2_2062, .int x3_2062, .int z2461, .int x5_2409] [] _ _
                  refine sf_R_iinc pm_M159 (pc_q := 52) (ls_q := fun z => [.ref a, .int x1_2062, .int x2_2062, .int x3_2062, .int z2461, .int z]) rfl B2434 rfl (by decide) (by decide) (by decide) (fun _ => rfl) rfl (fun z2462 e2463 B2464 => ?_)
                  show pm_R _ 159 52 [.ref a, .int x1_2062, .int x2_2062, .int x3_2062, .int z2461, .int z2462] [] _ _
                  refine pm_R_br pm_M159 (pc_q := 18) rfl rfl ?_
                  exact ih_2409 _ (sf_up hN_2409 e2463 B2434 (by decide) (by decide)) z2461 z2462 (sf_any z2461) (sf_weak B2464 (by decide) (by decide)) rfl
        exact L_2409 _ 0 0 (sf_weak sf_k0 (by decide) (by decide)) (sf_weak sf_k0 (by decide) (by decide)) rfl
  exact L_2062 _ (-1) 0 0 (pm_no) (pm_no) (sf_weak sf_kn1 (by decide) (by decide)) (sf_weak sf_k0 (by decide) (by decide)) (sf_weak sf_k0 (by decide) (by decide)) rfl rfl rfl

set_option maxRecDepth 100000 in
set_option maxHeartbeats 4000000 in
/-- SilentTable$Meal.eyesOf -/
theorem cl_c161 {d : Nat} {ck : cl_K} {E : Nat → pm_E} {m : Nat → Int32} {o : Nat → Option Nat} {h : pm_H} {Q : Option Value → pm_H → Prop} {a : Nat} {a0 : Int32} (G : cl_G ck E) (T : cl_T ck E m o h) (hk : ck a = 9) (Ba0 : sf_B 0 5 a0) (K : ∀ (r : Int32), Q (some (.int r)) h) : pm_R (d + 0) 161 0 [.ref a, .int a0, pm_no, pm_no] [] h Q := by
  refine pm_R_op pm_M161 (pc_q := 1) (st_q := [.int 0]) rfl rfl rfl ?_
  refine pm_R_lo pm_M161 (pc_q := 2) (ls_q := [.ref a, .int a0, .int 0, pm_no]) (st_q := []) rfl rfl rfl ?_
  refine pm_R_op pm_M161 (pc_q := 3) (st_q := [.int 0]) rfl rfl rfl ?_
  refine pm_R_lo pm_M161 (pc_q := 4) (ls_q := [.ref a, .int a0, .int 0, .int 0]) (st_q := []) rfl rfl rfl ?_
  have L_184 : ∀ (N : Nat) (x2_184 : Int32) (x3_184 : Int32), sf_B (-2147483648) 2147483647 x2_184 → sf_B 0 50 x3_184 → (50 - x3_184.toInt).toNat = N → pm_R (d + 0) 161 4 [.ref a, .int a0, .int x2_184, .int x3_184] [] h Q := by
    intro N
    induction N using Nat.strongRecOn with
    | ind N ih_184 =>
      intro x2_184 x3_184 Bx2_184 Bx3_184 hN_184
      refine pm_R_lo pm_M161 (pc_q := 5) rfl rfl rfl ?_
      refine pm_R_lo pm_M161 (pc_q := 6) rfl rfl rfl ?_
      obtain ⟨s185, n186, fd187, fg188, fs189, h190, h191, h192, eE193, eE194, eE195, eE196, b197⟩ := (G.2.2.2.1 a hk).2.2.2
      have kq198 := G.2.2.2.1 a hk
      refine pm_R_get pm_M161 (pc_q := 9) (v := .int (Int32.ofNat n186)) rfl rfl (T.im hk (by decide) (by decide) eE193) (G.ge hk (by decide)) (T.al hk (by decide)) rfl rfl ?_
      refine pm_R_icmp pm_M161 (t := 31) (pc_q := 12) rfl rfl rfl (fun c199 => ?_) (fun c199 => ?_)
      · skip
        refine pm_R_lo pm_M161 (pc_q := 32) rfl rfl rfl ?_
        exact pm_R_ret pm_M161 (r := some (.int x2_184)) rfl (pm_ret_i _) (K x2_184)
      · have B200 : sf_B 0 49 x3_184 := sf_ltL (Int32.not_le.mp c199) Bx3_184 (sf_ofB h192 (by decide))
        have B201 : sf_B 1 50 (Int32.ofNat n186) := sf_ltR (Int32.not_le.mp c199) Bx3_184 (sf_ofB h192 (by decide))
        refine pm_R_lo pm_M161 (pc_q := 13) rfl rfl rfl ?_
        refine pm_R_lo pm_M161 (pc_q := 14) rfl rfl rfl ?_
        refine pm_R_get pm_M161 (pc_q := 17) (v := .ref (a + 3)) rfl rfl (T.im hk (by decide) (by decide) eE193) (G.ge hk (by decide)) (T.al hk (by decide)) rfl rfl ?_
        refine pm_R_lo pm_M161 (pc_q := 18) rfl rfl rfl ?_
        have q205 := cl_in1 (n := n186) (Nat.le_trans h192 (by decide)) (Int32.not_le.mp c199) B200 (by decide)
        obtain ⟨z202, ez203⟩ : ∃ y, fs189 (Int32.toNatClampNeg x3_184) = y := ⟨_, rfl⟩
        refine pm_R_iald pm_M161 (pc_q := 19) (v := z202) rfl (T.im kq198.2.2.1 (by decide) (by decide) eE196) (T.al kq198.2.2.1 (by decide)) q205.1 ez203 rfl ?_
        refine pm_R_lo pm_M161 (pc_q := 20) rfl rfl rfl ?_
        refine sf_R_iany pm_M161 (pc_q := 21) (st := [.int x2_184]) rfl rfl rfl (fun z209 => ?_)
        refine pm_R_op pm_M161 (pc_q := 22) (st_q := [.int 1, .int z209, .int x2_184]) rfl rfl rfl ?_
        refine sf_R_iandE pm_M161 (pc_q := 23) rfl rfl sf_k1 (by decide) (fun z210 e211 B212 => ?_)
        refine sf_R_iany pm_M161 (pc_q := 24) (st := []) rfl rfl rfl (fun z216 => ?_)
        refine pm_R_lo pm_M161 (pc_q := 25) (ls_q := [.ref a, .int a0, .int z216, .int x3_184]) (st_q := []) rfl rfl rfl ?_
        refine sf_R_iinc pm_M161 (pc_q := 28) (ls_q := fun z => [.ref a, .int a0, .int z216, .int z]) rfl B200 rfl (by decide) (by decide) (by decide) (fun _ => rfl) rfl (fun z217 e218 B219 => ?_)
        show pm_R _ 161 28 [.ref a, .int a0, .int z216, .int z217] [] _ _
        refine pm_R_br pm_M161 (pc_q := 4) rfl rfl ?_
        exact ih_184 _ (sf_up hN_184 e218 B200 (by decide) (by decide)) z216 z217 (sf_any z216) (sf_weak B219 (by decide) (by decide)) rfl
  exact L_184 _ 0 0 (sf_weak sf_k0 (by decide) (by decide)) (sf_weak sf_k0 (by decide) (by decide)) rfl

set_option maxRecDepth 100000 in
set_option maxHeartbeats 4000000 in
/-- SilentTable$Meal.blindSigns -/
theorem cl_c160 {d : Nat} {ck : cl_K} {E : Nat → pm_E} {m : Nat → Int32} {o : Nat → Option Nat} {h : pm_H} {Q : Option Value → pm_H → Prop} {a : Nat} (G : cl_G ck E) (T : cl_T ck E m o h) (hk : ck a = 9) (K : ∀ (r : Int32), Q (some (.int r)) h) : pm_R (d + 1) 160 0 [.ref a, pm_no, pm_no] [] h Q := by
  refine pm_R_op pm_M160 (pc_q := 1) (st_q := [.int 0]) rfl rfl rfl ?_
  refine pm_R_lo pm_M160 (pc_q := 2) (ls_q := [.ref a, .int 0, pm_no]) (st_q := []) rfl rfl rfl ?_
  refine pm_R_op pm_M160 (pc_q := 3) (st_q := [.int 0]) rfl rfl rfl ?_
  refine pm_R_lo pm_M160 (pc_q := 4) (ls_q := [.ref a, .int 0, .int 0]) (st_q := []) rfl rfl rfl ?_
  have L_300 : ∀ (N : Nat) (x1_300 : Int32) (x2_300 : Int32), sf_B (-2147483648) 2147483647 x1_300 → sf_B 0 50 x2_300 → (50 - x2_300.toInt).toNat = N → pm_R (d + 1) 160 4 [.ref a, .int x1_300, .int x2_300] [] h Q := by
    intro N
    induction N using Nat.strongRecOn with
    | ind N ih_300 =>
      intro x1_300 x2_300 Bx1_300 Bx2_300 hN_300
      refine pm_R_lo pm_M160 (pc_q := 5) rfl rfl rfl ?_
      refine pm_R_lo pm_M160 (pc_q := 6) rfl rfl rfl ?_
      obtain ⟨s301, n302, fd303, fg304, fs305, h306, h307, h308, eE309, eE310, eE311, eE312, b313⟩ := (G.2.2.2.1 a hk).2.2.2
      have kq314 := G.2.2.2.1 a hk
      refine pm_R_get pm_M160 (pc_q := 9) (v := .int (Int32.ofNat n302)) rfl rfl (T.im hk (by decide) (by decide) eE309) (G.ge hk (by decide)) (T.al hk (by decide)) rfl rfl ?_
      refine pm_R_icmp pm_M160 (t := 50) (pc_q := 12) rfl rfl rfl (fun c315 => ?_) (fun c315 => ?_)
      · skip
        refine pm_R_lo pm_M160 (pc_q := 51) rfl rfl rfl ?_
        exact pm_R_ret pm_M160 (r := some (.int x1_300)) rfl (pm_ret_i _) (K x1_300)
      · have B316 : sf_B 0 49 x2_300 := sf_ltL (Int32.not_le.mp c315) Bx2_300 (sf_ofB h308 (by decide))
        have B317 : sf_B 1 50 (Int32.ofNat n302) := sf_ltR (Int32.not_le.mp c315) Bx2_300 (sf_ofB h308 (by decide))
        refine pm_R_lo pm_M160 (pc_q := 13) rfl rfl rfl ?_
        refine pm_R_lo pm_M160 (pc_q := 14) rfl rfl rfl ?_
        refine pm_R_cv pm_M160 (pc_q := 17) (a := a) (ra := [.int x2_300]) (rest := []) (ls_q := [.ref a, .int x2_300]) rfl rfl (Or.inl rfl) pm_M51 (T.im hk (by decide) (by decide) eE309) rfl (G.ge hk (by decide)) (T.al hk (by decide)) rfl rfl (Nat.le_of_ble_eq_true rfl) rfl rfl ?_
        refine pm_R_lo pm_M51 (pc_q := 1) rfl rfl rfl ?_
        refine pm_R_get pm_M51 (pc_q := 4) (v := .ref (a + 1)) rfl rfl (T.im hk (by decide) (by decide) eE309) (G.ge hk (by decide)) (T.al hk (by decide)) rfl rfl ?_
        refine pm_R_lo pm_M51 (pc_q := 5) rfl rfl rfl ?_
        refine pm_R_op pm_M51 (pc_q := 6) (st_q := [.int 4, .int x2_300, .ref (a + 1)]) rfl rfl rfl ?_
        refine sf_R_imul pm_M51 (pc_q := 7) rfl rfl B316 sf_k4 (by decide) (by decide) (by decide) (fun z318 e319 B320 => ?_)
        have q324 := cl_in4 (n := n302) (Nat.le_trans h308 (by decide)) (Int32.not_le.mp c315) (cl_aux5 _ _ e319) B316 (by decide) (by decide)
        obtain ⟨z321, ez322⟩ : ∃ y, fd303 (Int32.toNatClampNeg z318) = y := ⟨_, rfl⟩
        have B323 : sf_B 0 2 z321 := ez322 ▸ q324.2.2 ▸ (b313 _ q324.2.1).1
        refine pm_R_iald pm_M51 (pc_q := 8) (v := z321) rfl (T.im kq314.1 (by decide) (by decide) eE310) (T.al kq314.1 (by decide)) q324.1 ez322 rfl ?_
        refine pm_R_op pm_M51 (pc_q := 9) (st_q := [.int 2, .int z321]) rfl rfl rfl ?_
        refine pm_R_icmp pm_M51 (t := 16) (pc_q := 12) rfl rfl rfl (fun c325 => ?_) (fun c325 => ?_)
        · have B326 : sf_B 0 1 z321 := sf_neH0 c325 sf_k2 B323
          refine pm_R_op pm_M51 (pc_q := 17) (st_q := [.int 0]) rfl rfl rfl ?_
          refine pm_R_ret pm_M51 (r := some (.int 0)) rfl rfl ?_
          show pm_R _ 160 17 [.ref a, .int x1_300, .int x2_300] [.int 0] _ _
          refine pm_R_br pm_M160 (pc_q := 44) (st_q := []) rfl rfl ?_
          refine sf_R_iinc pm_M160 (pc_q := 47) (ls_q := fun z => [.ref a, .int x1_300, .int z]) rfl B316 rfl (by decide) (by decide) (by decide) (fun _ => rfl) rfl (fun z327 e328 B329 => ?_)
          show pm_R _ 160 47 [.ref a, .int x1_300, .int z327] [] _ _
          refine pm_R_br pm_M160 (pc_q := 4) rfl rfl ?_
          exact ih_300 _ (sf_up hN_300 e328 B316 (by decide) (by decide)) x1_300 z327 Bx1_300 (sf_weak B329 (by decide) (by decide)) rfl
        · have B330 : sf_B 2 2 z321 := sf_eqL (Classical.not_not.mp c325) sf_k2
          refine pm_R_op pm_M51 (pc_q := 13) (st_q := [.int 1]) rfl rfl rfl ?_
          refine pm_R_br pm_M51 (pc_q := 17) rfl rfl ?_
          refine pm_R_ret pm_M51 (r := some (.int 1)) rfl rfl ?_
          show pm_R _ 160 17 [.ref a, .int x1_300, .int x2_300] [.int 1] _ _
          refine pm_R_br pm_M160 (pc_q := 20) (st_q := []) rfl rfl ?_
          refine pm_R_lo pm_M160 (pc_q := 21) rfl rfl rfl ?_
          refine pm_R_get pm_M160 (pc_q := 24) (v := .ref (a + 2)) rfl rfl (T.im hk (by decide) (by decide) eE309) (G.ge hk (by decide)) (T.al hk (by decide)) rfl rfl ?_
          refine pm_R_lo pm_M160 (pc_q := 25) rfl rfl rfl ?_
          refine pm_R_lo pm_M160 (pc_q := 26) rfl rfl rfl ?_
          refine pm_R_get pm_M160 (pc_q := 29) (v := .int (Int32.ofNat s301)) rfl rfl (T.im hk (by decide) (by decide) eE309) (G.ge hk (by decide)) (T.al hk (by decide)) rfl rfl ?_
          refine sf_R_imul pm_M160 (pc_q := 30) rfl rfl B316 (sf_ofB1 h307 h306 (by decide)) (by decide) (by decide) (by decide) (fun z331 e332 B333 => ?_)
          refine pm_R_lo pm_M160 (pc_q := 31) rfl rfl rfl ?_
          refine pm_R_lo pm_M160 (pc_q := 32) rfl rfl rfl ?_
          refine pm_R_cv pm_M160 (pc_q := 35) (a := a) (ra := [.int x2_300]) (rest := [.int z331, .ref (a + 2)]) (ls_q := [.ref a, .int x2_300]) rfl rfl (Or.inl rfl) pm_M52 (T.im hk (by decide) (by decide) eE309) rfl (G.ge hk (by decide)) (T.al hk (by decide)) rfl rfl (Nat.le_of_ble_eq_true rfl) rfl rfl ?_
          refine pm_R_lo pm_M52 (pc_q := 1) rfl rfl rfl ?_
          refine pm_R_get pm_M52 (pc_q := 4) (v := .ref (a + 1)) rfl rfl (T.im hk (by decide) (by decide) eE309) (G.ge hk (by decide)) (T.al hk (by decide)) rfl rfl ?_
          refine pm_R_lo pm_M52 (pc_q := 5) rfl rfl rfl ?_
          refine pm_R_op pm_M52 (pc_q := 6) (st_q := [.int 4, .int x2_300, .ref (a + 1)]) rfl rfl rfl ?_
          refine sf_R_imulV pm_M52 (pc_q := 7) rfl rfl B316 sf_k4 (by decide) (by decide) (by decide) e319 ?_
          refine pm_R_op pm_M52 (pc_q := 8) (st_q := [.int 1, .int z318, .ref (a + 1)]) rfl rfl rfl ?_
          refine sf_R_iadd pm_M52 (pc_q := 9) rfl rfl B320 sf_k1 (by decide) (by decide) (fun z334 e335 B336 => ?_)
          have q340 := cl_in4 (n := n302) (Nat.le_trans h308 (by decide)) (Int32.not_le.mp c315) (cl_aux7 _ _ _ e319 e335) B316 (by decide) (by decide)
          obtain ⟨z337, ez338⟩ : ∃ y, fd303 (Int32.toNatClampNeg z334) = y := ⟨_, rfl⟩
          have B339 : sf_B 0 5 z337 := ez338 ▸ q340.2.2 ▸ (cl_seat (b313 _ q340.2.1).2.1 h307)
          refine pm_R_iald pm_M52 (pc_q := 10) (v := z337) rfl (T.im kq314.1 (by decide) (by decide) eE310) (T.al kq314.1 (by decide)) q340.1 ez338 rfl ?_
          refine pm_R_ret pm_M52 (r := some (.int z337)) rfl (pm_ret_i _) ?_
          show pm_R _ 160 35 [.ref a, .int x1_300, .int x2_300] [.int z337, .int z331, .ref (a + 2)] _ _
          refine sf_R_iadd pm_M160 (pc_q := 36) rfl rfl B333 B339 (by decide) (by decide) (fun z341 e342 B343 => ?_)
          obtain ⟨z347, ez348⟩ : ∃ y, fg304 (Int32.toNatClampNeg z341) = y := ⟨_, rfl⟩
          refine pm_R_iald pm_M160 (pc_q := 37) (v := z347) rfl (T.im kq314.2.1 (by decide) (by decide) eE311) (T.al kq314.2.1 (by decide)) (cl_inG (s := s301) (n := n302) h307 h308 e342 e332 (Int32.le_of_lt (Int32.not_le.mp c315)) (ez338 ▸ q340.2.2 ▸ (b313 _ q340.2.1).2.1.2) B316 B339 (by decide) (by decide)) ez348 rfl ?_
          refine pm_R_op pm_M160 (pc_q := 38) (st_q := [.int (-1), .int z347]) rfl rfl rfl ?_
          refine pm_R_icmp pm_M160 (t := 44) (pc_q := 41) rfl rfl rfl (fun c349 => ?_) (fun c349 => ?_)
          · skip
            refine sf_R_iinc pm_M160 (pc_q := 47) (ls_q := fun z => [.ref a, .int x1_300, .int z]) rfl B316 rfl (by decide) (by decide) (by decide) (fun _ => rfl) rfl (fun z350 e351 B352 => ?_)
            show pm_R _ 160 47 [.ref a, .int x1_300, .int z350] [] _ _
            refine pm_R_br pm_M160 (pc_q := 4) rfl rfl ?_
            exact ih_300 _ (sf_up hN_300 e351 B316 (by decide) (by decide)) x1_300 z350 Bx1_300 (sf_weak B352 (by decide) (by decide)) rfl
          · have B353 : sf_B (-1) (-1) z347 := sf_eqL (Classical.not_not.mp c349) sf_kn1
            refine sf_R_iincA pm_M160 (pc_q := 44) (ls_q := fun z => [.ref a, .int z, .int x2_300]) rfl rfl (fun _ => rfl) rfl (fun z354 => ?_)
            show pm_R _ 160 44 [.ref a, .int z354, .int x2_300] [] _ _
            refine sf_R_iinc pm_M160 (pc_q := 47) (ls_q := fun z => [.ref a, .int z354, .int z]) rfl B316 rfl (by decide) (by decide) (by decide) (fun _ => rfl) rfl (fun z355 e356 B357 => ?_)
            show pm_R _ 160 47 [.ref a, .int z354, .int z355] [] _ _
            refine pm_R_br pm_M160 (pc_q := 4) rfl rfl ?_
            exact ih_300 _ (sf_up hN_300 e356 B316 (by decide) (by decide)) z354 z355 (sf_any z354) (sf_weak B357 (by decide) (by decide)) rfl
  exact L_300 _ 0 0 (sf_weak sf_k0 (by decide) (by decide)) (sf_weak sf_k0 (by decide) (by decide)) rfl

set_option maxRecDepth 100000 in
set_option maxHeartbeats 4000000 in
/-- SilentTable.meal -/
theorem cl_c138 {d : Nat} {ck : cl_K} {E : Nat → pm_E} {m : Nat → Int32} {o : Nat → Option Nat} {h : pm_H} {Q : Option Value → pm_H → Prop} {a0 : Int32} {a1 : Int32} (G : cl_G ck E) (T : cl_T ck E m o h)  (K : ∀ (r : Int32), Q (some (.int r)) h) : pm_R (d + 2) 138 0 [.ref 16, .int a0, .int a1, pm_no] [] h Q := by
  refine pm_R_lo pm_M138 (pc_q := 1) rfl rfl rfl ?_
  refine pm_R_lo pm_M138 (pc_q := 2) rfl rfl rfl ?_
  refine pm_R_cv pm_M138 (pc_q := 5) (a := 16) (ra := [.int a0]) (rest := []) (ls_q := [.ref 16, .int a0]) rfl rfl (Or.inl rfl) pm_M139 T.e16 rfl (by decide) (T.lt (by decide)) rfl rfl (Nat.le_of_ble_eq_true rfl) rfl rfl ?_
  refine pm_R_lo pm_M139 (pc_q := 1) rfl rfl rfl ?_
  refine pm_R_ifc pm_M139 (t := 17) (pc_q := 4) rfl rfl rfl (fun c1 => ?_) (fun c1 => ?_)
  · have B2 : sf_B (-2147483648) (-1) a0 := sf_ltL c1 (sf_any a0) sf_k0
    refine pm_R_op pm_M139 (pc_q := 18) (st_q := [.null]) rfl rfl rfl ?_
    refine pm_R_br pm_M139 (pc_q := 30) rfl rfl ?_
    refine pm_R_ret pm_M139 (r := some (.null)) rfl rfl ?_
    show pm_R _ 138 5 [.ref 16, .int a0, .int a1, pm_no] [.null] _ _
    refine pm_R_lo pm_M138 (pc_q := 6) (ls_q := [.ref 16, .int a0, .int a1, .null]) (st_q := []) rfl rfl rfl ?_
    refine pm_R_lo pm_M138 (pc_q := 7) rfl rfl rfl ?_
    refine pm_R_br pm_M138 (pc_q := 10) rfl rfl ?_
    refine pm_R_op pm_M138 (pc_q := 11) (st_q := [.int (-1)]) rfl rfl rfl ?_
    exact pm_R_ret pm_M138 (r := some (.int (-1))) rfl rfl (K (-1))
  · have B3 : sf_B 0 2147483647 a0 := sf_leR (Int32.not_lt.mp c1) sf_k0 (sf_any a0)
    refine pm_R_lo pm_M139 (pc_q := 5) rfl rfl rfl ?_
    refine pm_R_lo pm_M139 (pc_q := 6) rfl rfl rfl ?_
    refine pm_R_get pm_M139 (pc_q := 9) (v := .ref 17) rfl rfl T.e16 (by decide) (T.lt (by decide)) rfl rfl ?_
    refine pm_R_get pm_M139 (pc_q := 12) (v := .ref 23) rfl rfl T.e17 (by decide) (T.lt (by decide)) rfl rfl ?_
    refine pm_R_op pm_M139 (pc_q := 13) (st_q := [.int 2, .ref 23, .int a0]) rfl rfl rfl ?_
    obtain ⟨f7, e8, b9⟩ := T.C 23 (by decide) (by decide)
    obtain ⟨z4, ez5⟩ : ∃ y, f7 (Int32.toNatClampNeg 2) = y := ⟨_, rfl⟩
    have B6 : sf_B 0 2 z4 := ez5 ▸ (b9 2)
    refine pm_R_iald pm_M139 (pc_q := 14) (v := z4) rfl e8 (T.lt (by decide)) rfl ez5 rfl ?_
    refine pm_R_icmp pm_M139 (t := 21) (pc_q := 17) rfl rfl rfl (fun c10 => ?_) (fun c10 => ?_)
    · have B11 : sf_B 0 1 a0 := sf_ltL c10 B3 B6
      have B12 : sf_B 1 2 z4 := sf_ltR c10 B3 B6
      refine pm_R_lo pm_M139 (pc_q := 22) rfl rfl rfl ?_
      refine pm_R_get pm_M139 (pc_q := 25) (v := .ref 17) rfl rfl T.e16 (by decide) (T.lt (by decide)) rfl rfl ?_
      refine pm_R_get pm_M139 (pc_q := 28) (v := .ref 21) rfl rfl T.e17 (by decide) (T.lt (by decide)) rfl rfl ?_
      refine pm_R_lo pm_M139 (pc_q := 29) rfl rfl rfl ?_
      obtain ⟨f13, e14, b15⟩ := T.C 21 (by decide) (by decide)
      obtain ⟨l16, hx17⟩ := cl_there2 T e8 e14 ez5 c10 B11 (by decide)
      have hk18 := b15 _ _ hx17
      refine pm_R_aald pm_M139 (pc_q := 30) (v := .ref l16) rfl e14 (by decide) (by decide) (by decide) (T.lt (by decide)) (sf_in B11 (by decide) (by decide)) (by rw [hx17]; rfl) rfl ?_
      refine pm_R_ret pm_M139 (r := some (.ref l16)) rfl rfl ?_
      show pm_R _ 138 5 [.ref 16, .int a0, .int a1, pm_no] [.ref l16] _ _
      refine pm_R_lo pm_M138 (pc_q := 6) (ls_q := [.ref 16, .int a0, .int a1, .ref l16]) (st_q := []) rfl rfl rfl ?_
      refine pm_R_lo pm_M138 (pc_q := 7) rfl rfl rfl ?_
      refine pm_R_br pm_M138 (pc_q := 12) rfl rfl ?_
      refine pm_R_lo pm_M138 (pc_q := 13) rfl rfl rfl ?_
      by_cases c19 : a1 < 0
      · refine pm_R_tswD pm_M138 (pc_q := 66) rfl (Or.inl (Int32.lt_iff_toInt_lt.mp c19)) rfl ?_
        have B20 : sf_B (-2147483648) (-1) a1 := sf_ltL c19 (sf_any a1) sf_k0
        refine pm_R_op pm_M138 (pc_q := 67) (st_q := [.int (-1)]) rfl rfl rfl ?_
        exact pm_R_ret pm_M138 (r := some (.int (-1))) rfl rfl (K (-1))
      have B21 : sf_B 0 2147483647 a1 := sf_leR (Int32.not_lt.mp c19) sf_k0 (sf_any a1)
      by_cases c22 : 3 < a1
      · refine pm_R_tswD pm_M138 (pc_q := 66) rfl (Or.inr (Int32.lt_iff_toInt_lt.mp c22)) rfl ?_
        have B23 : sf_B 4 2147483647 a1 := sf_ltR c22 sf_k3 (sf_any a1)
        refine pm_R_op pm_M138 (pc_q := 67) (st_q := [.int (-1)]) rfl rfl rfl ?_
        exact pm_R_ret pm_M138 (r := some (.int (-1))) rfl rfl (K (-1))
      have B24 : sf_B (-2147483648) 3 a1 := sf_leL (Int32.not_lt.mp c22) (sf_any a1) sf_k3
      by_cases c25 : a1 < 0
      · refine pm_R_tswD pm_M138 (pc_q := 66) rfl (Or.inl (Int32.lt_iff_toInt_lt.mp c25)) rfl ?_
        have B26 : sf_B (-2147483648) (-1) a1 := sf_ltL c25 B24 sf_k0
        refine pm_R_op pm_M138 (pc_q := 67) (st_q := [.int (-1)]) rfl rfl rfl ?_
        exact pm_R_ret pm_M138 (r := some (.int (-1))) rfl rfl (K (-1))
      have B27 : sf_B 0 3 a1 := sf_leR (Int32.not_lt.mp c25) sf_k0 B24
      by_cases c28 : 3 < a1
      · refine pm_R_tswD pm_M138 (pc_q := 66) rfl (Or.inr (Int32.lt_iff_toInt_lt.mp c28)) rfl ?_
        have B29 : sf_B 4 3 a1 := sf_ltR c28 sf_k3 B24
        refine pm_R_op pm_M138 (pc_q := 67) (st_q := [.int (-1)]) rfl rfl rfl ?_
        exact pm_R_ret pm_M138 (r := some (.int (-1))) rfl rfl (K (-1))
      skip
      by_cases c30 : a1 = 0
      · rw [c30]
        refine pm_R_br pm_M138 (pc_q := 44) (st_q := []) rfl rfl ?_
        refine pm_R_lo pm_M138 (pc_q := 45) rfl rfl rfl ?_
        obtain ⟨s31, n32, fd33, fg34, fs35, h36, h37, h38, eE39, eE40, eE41, eE42, b43⟩ := (G.2.2.2.1 l16 hk18).2.2.2
        have kq44 := G.2.2.2.1 l16 hk18
        refine pm_R_get pm_M138 (pc_q := 48) (v := .int (Int32.ofNat s31)) rfl rfl (T.im hk18 (by decide) (by decide) eE39) (G.ge hk18 (by decide)) (T.al hk18 (by decide)) rfl rfl ?_
        exact pm_R_ret pm_M138 (r := some (.int (Int32.ofNat s31))) rfl (pm_ret_i _) (K (Int32.ofNat s31))
      have B45 : sf_B 1 3 a1 := sf_neL0 c30 sf_k0 B27
      by_cases c46 : a1 = 1
      · rw [c46]
        refine pm_R_br pm_M138 (pc_q := 49) (st_q := []) rfl rfl ?_
        refine pm_R_lo pm_M138 (pc_q := 50) rfl rfl rfl ?_
        obtain ⟨s47, n48, fd49, fg50, fs51, h52, h53, h54, eE55, eE56, eE57, eE58, b59⟩ := (G.2.2.2.1 l16 hk18).2.2.2
        have kq60 := G.2.2.2.1 l16 hk18
        refine pm_R_get pm_M138 (pc_q := 53) (v := .int (Int32.ofNat n48)) rfl rfl (T.im hk18 (by decide) (by decide) eE55) (G.ge hk18 (by decide)) (T.al hk18 (by decide)) rfl rfl ?_
        exact pm_R_ret pm_M138 (r := some (.int (Int32.ofNat n48))) rfl (pm_ret_i _) (K (Int32.ofNat n48))
      have B61 : sf_B 2 3 a1 := sf_neL0 c46 sf_k1 B45
      by_cases c62 : a1 = 2
      · rw [c62]
        refine pm_R_br pm_M138 (pc_q := 54) (st_q := []) rfl rfl ?_
        refine pm_R_lo pm_M138 (pc_q := 55) rfl rfl rfl ?_
        refine pm_R_op pm_M138 (pc_q := 56) (st_q := [.int 0, .ref l16]) rfl rfl rfl ?_
        obtain ⟨s63, n64, fd65, fg66, fs67, h68, h69, h70, eE71, eE72, eE73, eE74, b75⟩ := (G.2.2.2.1 l16 hk18).2.2.2
        have kq76 := G.2.2.2.1 l16 hk18
        refine pm_R_cv pm_M138 (pc_q := 59) (a := l16) (ra := [.int 0]) (rest := []) (ls_q := [.ref l16, .int 0, pm_no, pm_no]) rfl rfl (Or.inl rfl) pm_M140 (T.im hk18 (by decide) (by decide) eE71) rfl (G.ge hk18 (by decide)) (T.al hk18 (by decide)) rfl rfl (Nat.le_of_ble_eq_true rfl) rfl rfl ?_
        refine cl_c140 (d := d + 0) G T hk18 (sf_weak sf_k0 (by decide) (by decide)) (fun r77 => ?_)
        show pm_R _ 138 59 [.ref 16, .int a0, .int 2, .ref l16] [.int r77] _ _
        exact pm_R_ret pm_M138 (r := some (.int r77)) rfl (pm_ret_i _) (K r77)
      have B84 : sf_B 3 3 a1 := sf_neL0 c62 sf_k2 B61
      rw [sf_pt2 B84 sf_k3]
      refine pm_R_br pm_M138 (pc_q := 60) (st_q := []) rfl rfl ?_
      refine pm_R_lo pm_M138 (pc_q := 61) rfl rfl rfl ?_
      refine pm_R_op pm_M138 (pc_q := 62) (st_q := [.int 1, .ref l16]) rfl rfl rfl ?_
      obtain ⟨s85, n86, fd87, fg88, fs89, h90, h91, h92, eE93, eE94, eE95, eE96, b97⟩ := (G.2.2.2.1 l16 hk18).2.2.2
      have kq98 := G.2.2.2.1 l16 hk18
      refine pm_R_cv pm_M138 (pc_q := 65) (a := l16) (ra := [.int 1]) (rest := []) (ls_q := [.ref l16, .int 1, pm_no, pm_no]) rfl rfl (Or.inl rfl) pm_M140 (T.im hk18 (by decide) (by decide) eE93) rfl (G.ge hk18 (by decide)) (T.al hk18 (by decide)) rfl rfl (Nat.le_of_ble_eq_true rfl) rfl rfl ?_
      refine cl_c140 (d := d + 0) G T hk18 (sf_weak sf_k1 (by decide) (by decide)) (fun r99 => ?_)
      show pm_R _ 138 65 [.ref 16, .int a0, .int 3, .ref l16] [.int r99] _ _
      exact pm_R_ret pm_M138 (r := some (.int r99)) rfl (pm_ret_i _) (K r99)
    · skip
      refine pm_R_op pm_M139 (pc_q := 18) (st_q := [.null]) rfl rfl rfl ?_
      refine pm_R_br pm_M139 (pc_q := 30) rfl rfl ?_
      refine pm_R_ret pm_M139 (r := some (.null)) rfl rfl ?_
      show pm_R _ 138 5 [.ref 16, .int a0, .int a1, pm_no] [.null] _ _
      refine pm_R_lo pm_M138 (pc_q := 6) (ls_q := [.ref 16, .int a0, .int a1, .null]) (st_q := []) rfl rfl rfl ?_
      refine pm_R_lo pm_M138 (pc_q := 7) rfl rfl rfl ?_
      refine pm_R_br pm_M138 (pc_q := 10) rfl rfl ?_
      refine pm_R_op pm_M138 (pc_q := 11) (st_q := [.int (-1)]) rfl rfl rfl ?_
      exact pm_R_ret pm_M138 (r := some (.int (-1))) rfl rfl (K (-1))

set_option maxRecDepth 100000 in
set_option maxHeartbeats 4000000 in
/-- SilentTable.deed -/
theorem cl_c141 {d : Nat} {ck : cl_K} {E : Nat → pm_E} {m : Nat → Int32} {o : Nat → Option Nat} {h : pm_H} {Q : Option Value → pm_H → Prop} {a0 : Int32} {a1 : Int32} {a2 : Int32} (G : cl_G ck E) (T : cl_T ck E m o h)  (K : ∀ (r : Int32), Q (some (.int r)) h) : pm_R (d + 1) 141 0 [.ref 16, .int a0, .int a1, .int a2, pm_no] [] h Q := by
  refine pm_R_lo pm_M141 (pc_q := 1) rfl rfl rfl ?_
  refine pm_R_lo pm_M141 (pc_q := 2) rfl rfl rfl ?_
  refine pm_R_cv pm_M141 (pc_q := 5) (a := 16) (ra := [.int a0]) (rest := []) (ls_q := [.ref 16, .int a0]) rfl rfl (Or.inl rfl) pm_M139 T.e16 rfl (by decide) (T.lt (by decide)) rfl rfl (Nat.le_of_ble_eq_true rfl) rfl rfl ?_
  refine pm_R_lo pm_M139 (pc_q := 1) rfl rfl rfl ?_
  refine pm_R_ifc pm_M139 (t := 17) (pc_q := 4) rfl rfl rfl (fun c1 => ?_) (fun c1 => ?_)
  · have B2 : sf_B (-2147483648) (-1) a0 := sf_ltL c1 (sf_any a0) sf_k0
    refine pm_R_op pm_M139 (pc_q := 18) (st_q := [.null]) rfl rfl rfl ?_
    refine pm_R_br pm_M139 (pc_q := 30) rfl rfl ?_
    refine pm_R_ret pm_M139 (r := some (.null)) rfl rfl ?_
    show pm_R _ 141 5 [.ref 16, .int a0, .int a1, .int a2, pm_no] [.null] _ _
    refine pm_R_lo pm_M141 (pc_q := 7) (ls_q := [.ref 16, .int a0, .int a1, .int a2, .null]) (st_q := []) rfl rfl rfl ?_
    refine pm_R_lo pm_M141 (pc_q := 9) rfl rfl rfl ?_
    refine pm_R_br pm_M141 (pc_q := 34) rfl rfl ?_
    refine pm_R_op pm_M141 (pc_q := 36) (st_q := [.int (-2)]) rfl rfl rfl ?_
    exact pm_R_ret pm_M141 (r := some (.int (-2))) rfl rfl (K (-2))
  · have B3 : sf_B 0 2147483647 a0 := sf_leR (Int32.not_lt.mp c1) sf_k0 (sf_any a0)
    refine pm_R_lo pm_M139 (pc_q := 5) rfl rfl rfl ?_
    refine pm_R_lo pm_M139 (pc_q := 6) rfl rfl rfl ?_
    refine pm_R_get pm_M139 (pc_q := 9) (v := .ref 17) rfl rfl T.e16 (by decide) (T.lt (by decide)) rfl rfl ?_
    refine pm_R_get pm_M139 (pc_q := 12) (v := .ref 23) rfl rfl T.e17 (by decide) (T.lt (by decide)) rfl rfl ?_
    refine pm_R_op pm_M139 (pc_q := 13) (st_q := [.int 2, .ref 23, .int a0]) rfl rfl rfl ?_
    obtain ⟨f7, e8, b9⟩ := T.C 23 (by decide) (by decide)
    obtain ⟨z4, ez5⟩ : ∃ y, f7 (Int32.toNatClampNeg 2) = y := ⟨_, rfl⟩
    have B6 : sf_B 0 2 z4 := ez5 ▸ (b9 2)
    refine pm_R_iald pm_M139 (pc_q := 14) (v := z4) rfl e8 (T.lt (by decide)) rfl ez5 rfl ?_
    refine pm_R_icmp pm_M139 (t := 21) (pc_q := 17) rfl rfl rfl (fun c10 => ?_) (fun c10 => ?_)
    · have B11 : sf_B 0 1 a0 := sf_ltL c10 B3 B6
      have B12 : sf_B 1 2 z4 := sf_ltR c10 B3 B6
      refine pm_R_lo pm_M139 (pc_q := 22) rfl rfl rfl ?_
      refine pm_R_get pm_M139 (pc_q := 25) (v := .ref 17) rfl rfl T.e16 (by decide) (T.lt (by decide)) rfl rfl ?_
      refine pm_R_get pm_M139 (pc_q := 28) (v := .ref 21) rfl rfl T.e17 (by decide) (T.lt (by decide)) rfl rfl ?_
      refine pm_R_lo pm_M139 (pc_q := 29) rfl rfl rfl ?_
      obtain ⟨f13, e14, b15⟩ := T.C 21 (by decide) (by decide)
      obtain ⟨l16, hx17⟩ := cl_there2 T e8 e14 ez5 c10 B11 (by decide)
      have hk18 := b15 _ _ hx17
      refine pm_R_aald pm_M139 (pc_q := 30) (v := .ref l16) rfl e14 (by decide) (by decide) (by decide) (T.lt (by decide)) (sf_in B11 (by decide) (by decide)) (by rw [hx17]; rfl) rfl ?_
      refine pm_R_ret pm_M139 (r := some (.ref l16)) rfl rfl ?_
      show pm_R _ 141 5 [.ref 16, .int a0, .int a1, .int a2, pm_no] [.ref l16] _ _
      refine pm_R_lo pm_M141 (pc_q := 7) (ls_q := [.ref 16, .int a0, .int a1, .int a2, .ref l16]) (st_q := []) rfl rfl rfl ?_
      refine pm_R_lo pm_M141 (pc_q := 9) rfl rfl rfl ?_
      refine pm_R_br pm_M141 (pc_q := 12) rfl rfl ?_
      refine pm_R_lo pm_M141 (pc_q := 13) rfl rfl rfl ?_
      refine pm_R_ifc pm_M141 (t := 34) (pc_q := 16) rfl rfl rfl (fun c19 => ?_) (fun c19 => ?_)
      · have B20 : sf_B (-2147483648) (-1) a1 := sf_ltL c19 (sf_any a1) sf_k0
        refine pm_R_op pm_M141 (pc_q := 36) (st_q := [.int (-2)]) rfl rfl rfl ?_
        exact pm_R_ret pm_M141 (r := some (.int (-2))) rfl rfl (K (-2))
      · have B21 : sf_B 0 2147483647 a1 := sf_leR (Int32.not_lt.mp c19) sf_k0 (sf_any a1)
        refine pm_R_lo pm_M141 (pc_q := 17) rfl rfl rfl ?_
        refine pm_R_lo pm_M141 (pc_q := 19) rfl rfl rfl ?_
        obtain ⟨s22, n23, fd24, fg25, fs26, h27, h28, h29, eE30, eE31, eE32, eE33, b34⟩ := (G.2.2.2.1 l16 hk18).2.2.2
        have kq35 := G.2.2.2.1 l16 hk18
        refine pm_R_get pm_M141 (pc_q := 22) (v := .int (Int32.ofNat n23)) rfl rfl (T.im hk18 (by decide) (by decide) eE30) (G.ge hk18 (by decide)) (T.al hk18 (by decide)) rfl rfl ?_
        refine pm_R_icmp pm_M141 (t := 34) (pc_q := 25) rfl rfl rfl (fun c36 => ?_) (fun c36 => ?_)
        · skip
          refine pm_R_op pm_M141 (pc_q := 36) (st_q := [.int (-2)]) rfl rfl rfl ?_
          exact pm_R_ret pm_M141 (r := some (.int (-2))) rfl rfl (K (-2))
        · have B37 : sf_B 0 49 a1 := sf_ltL (Int32.not_le.mp c36) B21 (sf_ofB h29 (by decide))
          have B38 : sf_B 1 50 (Int32.ofNat n23) := sf_ltR (Int32.not_le.mp c36) B21 (sf_ofB h29 (by decide))
          refine pm_R_lo pm_M141 (pc_q := 26) rfl rfl rfl ?_
          refine pm_R_ifc pm_M141 (t := 34) (pc_q := 29) rfl rfl rfl (fun c39 => ?_) (fun c39 => ?_)
          · have B40 : sf_B (-2147483648) (-1) a2 := sf_ltL c39 (sf_any a2) sf_k0
            refine pm_R_op pm_M141 (pc_q := 36) (st_q := [.int (-2)]) rfl rfl rfl ?_
            exact pm_R_ret pm_M141 (r := some (.int (-2))) rfl rfl (K (-2))
          · have B41 : sf_B 0 2147483647 a2 := sf_leR (Int32.not_lt.mp c39) sf_k0 (sf_any a2)
            refine pm_R_lo pm_M141 (pc_q := 30) rfl rfl rfl ?_
            refine pm_R_op pm_M141 (pc_q := 31) (st_q := [.int 3, .int a2]) rfl rfl rfl ?_
            refine pm_R_icmp pm_M141 (t := 37) (pc_q := 34) rfl rfl rfl (fun c42 => ?_) (fun c42 => ?_)
            · have B43 : sf_B 0 3 a2 := sf_leL c42 B41 sf_k3
              refine pm_R_lo pm_M141 (pc_q := 38) rfl rfl rfl ?_
              refine pm_R_op pm_M141 (pc_q := 39) (st_q := [.int 3, .int a2]) rfl rfl rfl ?_
              refine pm_R_icmp pm_M141 (t := 52) (pc_q := 42) rfl rfl rfl (fun c44 => ?_) (fun c44 => ?_)
              · have B45 : sf_B 0 2 a2 := sf_neH0 c44 sf_k3 B43
                refine pm_R_lo pm_M141 (pc_q := 54) rfl rfl rfl ?_
                refine pm_R_get pm_M141 (pc_q := 57) (v := .ref (l16 + 1)) rfl rfl (T.im hk18 (by decide) (by decide) eE30) (G.ge hk18 (by decide)) (T.al hk18 (by decide)) rfl rfl ?_
                refine pm_R_lo pm_M141 (pc_q := 58) rfl rfl rfl ?_
                refine pm_R_op pm_M141 (pc_q := 59) (st_q := [.int 4, .int a1, .ref (l16 + 1)]) rfl rfl rfl ?_
                refine sf_R_imul pm_M141 (pc_q := 60) rfl rfl B37 sf_k4 (by decide) (by decide) (by decide) (fun z46 e47 B48 => ?_)
                refine pm_R_lo pm_M141 (pc_q := 61) rfl rfl rfl ?_
                refine sf_R_iadd pm_M141 (pc_q := 62) rfl rfl B48 B45 (by decide) (by decide) (fun z49 e50 B51 => ?_)
                have q55 := cl_in4 (n := n23) (Nat.le_trans h29 (by decide)) (Int32.not_le.mp c36) (cl_aux4 _ _ _ _ e47 e50) B37 (by decide) (cl_c03 B45 (by decide) (by decide))
                obtain ⟨z52, ez53⟩ : ∃ y, fd24 (Int32.toNatClampNeg z49) = y := ⟨_, rfl⟩
                refine pm_R_iald pm_M141 (pc_q := 63) (v := z52) rfl (T.im kq35.1 (by decide) (by decide) eE31) (T.al kq35.1 (by decide)) q55.1 ez53 rfl ?_
                exact pm_R_ret pm_M141 (r := some (.int z52)) rfl (pm_ret_i _) (K z52)
              · have B56 : sf_B 3 3 a2 := sf_eqL (Classical.not_not.mp c44) sf_k3
                refine pm_R_lo pm_M141 (pc_q := 44) rfl rfl rfl ?_
                refine pm_R_get pm_M141 (pc_q := 47) (v := .ref (l16 + 3)) rfl rfl (T.im hk18 (by decide) (by decide) eE30) (G.ge hk18 (by decide)) (T.al hk18 (by decide)) rfl rfl ?_
                refine pm_R_lo pm_M141 (pc_q := 48) rfl rfl rfl ?_
                have q60 := cl_in1 (n := n23) (Nat.le_trans h29 (by decide)) (Int32.not_le.mp c36) B37 (by decide)
                obtain ⟨z57, ez58⟩ : ∃ y, fs26 (Int32.toNatClampNeg a1) = y := ⟨_, rfl⟩
                refine pm_R_iald pm_M141 (pc_q := 49) (v := z57) rfl (T.im kq35.2.2.1 (by decide) (by decide) eE33) (T.al kq35.2.2.1 (by decide)) q60.1 ez58 rfl ?_
                refine pm_R_br pm_M141 (pc_q := 63) rfl rfl ?_
                exact pm_R_ret pm_M141 (r := some (.int z57)) rfl (pm_ret_i _) (K z57)
            · have B61 : sf_B 4 2147483647 a2 := sf_ltR (Int32.not_le.mp c42) sf_k3 B41
              refine pm_R_op pm_M141 (pc_q := 36) (st_q := [.int (-2)]) rfl rfl rfl ?_
              exact pm_R_ret pm_M141 (r := some (.int (-2))) rfl rfl (K (-2))
    · skip
      refine pm_R_op pm_M139 (pc_q := 18) (st_q := [.null]) rfl rfl rfl ?_
      refine pm_R_br pm_M139 (pc_q := 30) rfl rfl ?_
      refine pm_R_ret pm_M139 (r := some (.null)) rfl rfl ?_
      show pm_R _ 141 5 [.ref 16, .int a0, .int a1, .int a2, pm_no] [.null] _ _
      refine pm_R_lo pm_M141 (pc_q := 7) (ls_q := [.ref 16, .int a0, .int a1, .int a2, .null]) (st_q := []) rfl rfl rfl ?_
      refine pm_R_lo pm_M141 (pc_q := 9) rfl rfl rfl ?_
      refine pm_R_br pm_M141 (pc_q := 34) rfl rfl ?_
      refine pm_R_op pm_M141 (pc_q := 36) (st_q := [.int (-2)]) rfl rfl rfl ?_
      exact pm_R_ret pm_M141 (r := some (.int (-2))) rfl rfl (K (-2))

set_option maxRecDepth 100000 in
set_option maxHeartbeats 4000000 in
/-- SilentTable.looks -/
theorem cl_c142 {d : Nat} {ck : cl_K} {E : Nat → pm_E} {m : Nat → Int32} {o : Nat → Option Nat} {h : pm_H} {Q : Option Value → pm_H → Prop} {a0 : Int32} {a1 : Int32} {a2 : Int32} (G : cl_G ck E) (T : cl_T ck E m o h)  (K : ∀ (r : Int32), Q (some (.int r)) h) : pm_R (d + 1) 142 0 [.ref 16, .int a0, .int a1, .int a2, pm_no] [] h Q := by
  refine pm_R_lo pm_M142 (pc_q := 1) rfl rfl rfl ?_
  refine pm_R_lo pm_M142 (pc_q := 2) rfl rfl rfl ?_
  refine pm_R_cv pm_M142 (pc_q := 5) (a := 16) (ra := [.int a0]) (rest := []) (ls_q := [.ref 16, .int a0]) rfl rfl (Or.inl rfl) pm_M139 T.e16 rfl (by decide) (T.lt (by decide)) rfl rfl (Nat.le_of_ble_eq_true rfl) rfl rfl ?_
  refine pm_R_lo pm_M139 (pc_q := 1) rfl rfl rfl ?_
  refine pm_R_ifc pm_M139 (t := 17) (pc_q := 4) rfl rfl rfl (fun c1 => ?_) (fun c1 => ?_)
  · have B2 : sf_B (-2147483648) (-1) a0 := sf_ltL c1 (sf_any a0) sf_k0
    refine pm_R_op pm_M139 (pc_q := 18) (st_q := [.null]) rfl rfl rfl ?_
    refine pm_R_br pm_M139 (pc_q := 30) rfl rfl ?_
    refine pm_R_ret pm_M139 (r := some (.null)) rfl rfl ?_
    show pm_R _ 142 5 [.ref 16, .int a0, .int a1, .int a2, pm_no] [.null] _ _
    refine pm_R_lo pm_M142 (pc_q := 7) (ls_q := [.ref 16, .int a0, .int a1, .int a2, .null]) (st_q := []) rfl rfl rfl ?_
    refine pm_R_lo pm_M142 (pc_q := 9) rfl rfl rfl ?_
    refine pm_R_br pm_M142 (pc_q := 34) rfl rfl ?_
    refine pm_R_op pm_M142 (pc_q := 36) (st_q := [.int (-2)]) rfl rfl rfl ?_
    exact pm_R_ret pm_M142 (r := some (.int (-2))) rfl rfl (K (-2))
  · have B3 : sf_B 0 2147483647 a0 := sf_leR (Int32.not_lt.mp c1) sf_k0 (sf_any a0)
    refine pm_R_lo pm_M139 (pc_q := 5) rfl rfl rfl ?_
    refine pm_R_lo pm_M139 (pc_q := 6) rfl rfl rfl ?_
    refine pm_R_get pm_M139 (pc_q := 9) (v := .ref 17) rfl rfl T.e16 (by decide) (T.lt (by decide)) rfl rfl ?_
    refine pm_R_get pm_M139 (pc_q := 12) (v := .ref 23) rfl rfl T.e17 (by decide) (T.lt (by decide)) rfl rfl ?_
    refine pm_R_op pm_M139 (pc_q := 13) (st_q := [.int 2, .ref 23, .int a0]) rfl rfl rfl ?_
    obtain ⟨f7, e8, b9⟩ := T.C 23 (by decide) (by decide)
    obtain ⟨z4, ez5⟩ : ∃ y, f7 (Int32.toNatClampNeg 2) = y := ⟨_, rfl⟩
    have B6 : sf_B 0 2 z4 := ez5 ▸ (b9 2)
    refine pm_R_iald pm_M139 (pc_q := 14) (v := z4) rfl e8 (T.lt (by decide)) rfl ez5 rfl ?_
    refine pm_R_icmp pm_M139 (t := 21) (pc_q := 17) rfl rfl rfl (fun c10 => ?_) (fun c10 => ?_)
    · have B11 : sf_B 0 1 a0 := sf_ltL c10 B3 B6
      have B12 : sf_B 1 2 z4 := sf_ltR c10 B3 B6
      refine pm_R_lo pm_M139 (pc_q := 22) rfl rfl rfl ?_
      refine pm_R_get pm_M139 (pc_q := 25) (v := .ref 17) rfl rfl T.e16 (by decide) (T.lt (by decide)) rfl rfl ?_
      refine pm_R_get pm_M139 (pc_q := 28) (v := .ref 21) rfl rfl T.e17 (by decide) (T.lt (by decide)) rfl rfl ?_
      refine pm_R_lo pm_M139 (pc_q := 29) rfl rfl rfl ?_
      obtain ⟨f13, e14, b15⟩ := T.C 21 (by decide) (by decide)
      obtain ⟨l16, hx17⟩ := cl_there2 T e8 e14 ez5 c10 B11 (by decide)
      have hk18 := b15 _ _ hx17
      refine pm_R_aald pm_M139 (pc_q := 30) (v := .ref l16) rfl e14 (by decide) (by decide) (by decide) (T.lt (by decide)) (sf_in B11 (by decide) (by decide)) (by rw [hx17]; rfl) rfl ?_
      refine pm_R_ret pm_M139 (r := some (.ref l16)) rfl rfl ?_
      show pm_R _ 142 5 [.ref 16, .int a0, .int a1, .int a2, pm_no] [.ref l16] _ _
      refine pm_R_lo pm_M142 (pc_q := 7) (ls_q := [.ref 16, .int a0, .int a1, .int a2, .ref l16]) (st_q := []) rfl rfl rfl ?_
      refine pm_R_lo pm_M142 (pc_q := 9) rfl rfl rfl ?_
      refine pm_R_br pm_M142 (pc_q := 12) rfl rfl ?_
      refine pm_R_lo pm_M142 (pc_q := 13) rfl rfl rfl ?_
      refine pm_R_ifc pm_M142 (t := 34) (pc_q := 16) rfl rfl rfl (fun c19 => ?_) (fun c19 => ?_)
      · have B20 : sf_B (-2147483648) (-1) a1 := sf_ltL c19 (sf_any a1) sf_k0
        refine pm_R_op pm_M142 (pc_q := 36) (st_q := [.int (-2)]) rfl rfl rfl ?_
        exact pm_R_ret pm_M142 (r := some (.int (-2))) rfl rfl (K (-2))
      · have B21 : sf_B 0 2147483647 a1 := sf_leR (Int32.not_lt.mp c19) sf_k0 (sf_any a1)
        refine pm_R_lo pm_M142 (pc_q := 17) rfl rfl rfl ?_
        refine pm_R_lo pm_M142 (pc_q := 19) rfl rfl rfl ?_
        obtain ⟨s22, n23, fd24, fg25, fs26, h27, h28, h29, eE30, eE31, eE32, eE33, b34⟩ := (G.2.2.2.1 l16 hk18).2.2.2
        have kq35 := G.2.2.2.1 l16 hk18
        refine pm_R_get pm_M142 (pc_q := 22) (v := .int (Int32.ofNat n23)) rfl rfl (T.im hk18 (by decide) (by decide) eE30) (G.ge hk18 (by decide)) (T.al hk18 (by decide)) rfl rfl ?_
        refine pm_R_icmp pm_M142 (t := 34) (pc_q := 25) rfl rfl rfl (fun c36 => ?_) (fun c36 => ?_)
        · have B37 : sf_B 1 2147483647 a1 := sf_ltR c36 (sf_ofB h29 (by decide)) B21
          refine pm_R_op pm_M142 (pc_q := 36) (st_q := [.int (-2)]) rfl rfl rfl ?_
          exact pm_R_ret pm_M142 (r := some (.int (-2))) rfl rfl (K (-2))
        · have B38 : sf_B 0 50 a1 := sf_leL (Int32.not_lt.mp c36) B21 (sf_ofB h29 (by decide))
          refine pm_R_lo pm_M142 (pc_q := 27) rfl rfl rfl ?_
          refine pm_R_lo pm_M142 (pc_q := 28) rfl rfl rfl ?_
          refine pm_R_cv pm_M142 (pc_q := 31) (a := l16) (ra := [.int a2]) (rest := []) (ls_q := [.ref l16, .int a2]) rfl rfl (Or.inl rfl) pm_M143 (T.im hk18 (by decide) (by decide) eE30) rfl (G.ge hk18 (by decide)) (T.al hk18 (by decide)) rfl rfl (Nat.le_of_ble_eq_true rfl) rfl rfl ?_
          refine pm_R_lo pm_M143 (pc_q := 1) rfl rfl rfl ?_
          refine pm_R_ifc pm_M143 (t := 16) (pc_q := 4) rfl rfl rfl (fun c39 => ?_) (fun c39 => ?_)
          · have B40 : sf_B (-2147483648) (-1) a2 := sf_ltL c39 (sf_any a2) sf_k0
            refine pm_R_op pm_M143 (pc_q := 17) (st_q := [.int 0]) rfl rfl rfl ?_
            refine pm_R_ret pm_M143 (r := some (.int 0)) rfl rfl ?_
            show pm_R _ 142 31 [.ref 16, .int a0, .int a1, .int a2, .ref l16] [.int 0] _ _
            refine pm_R_br pm_M142 (pc_q := 34) (st_q := []) rfl rfl ?_
            refine pm_R_op pm_M142 (pc_q := 36) (st_q := [.int (-2)]) rfl rfl rfl ?_
            exact pm_R_ret pm_M142 (r := some (.int (-2))) rfl rfl (K (-2))
          · have B41 : sf_B 0 2147483647 a2 := sf_leR (Int32.not_lt.mp c39) sf_k0 (sf_any a2)
            refine pm_R_lo pm_M143 (pc_q := 5) rfl rfl rfl ?_
            refine pm_R_lo pm_M143 (pc_q := 6) rfl rfl rfl ?_
            refine pm_R_get pm_M143 (pc_q := 9) (v := .int (Int32.ofNat s22)) rfl rfl (T.im hk18 (by decide) (by decide) eE30) (G.ge hk18 (by decide)) (T.al hk18 (by decide)) rfl rfl ?_
            refine pm_R_icmp pm_M143 (t := 16) (pc_q := 12) rfl rfl rfl (fun c42 => ?_) (fun c42 => ?_)
            · have B43 : sf_B 1 2147483647 a2 := sf_leR c42 (sf_ofB1 h28 h27 (by decide)) B41
              refine pm_R_op pm_M143 (pc_q := 17) (st_q := [.int 0]) rfl rfl rfl ?_
              refine pm_R_ret pm_M143 (r := some (.int 0)) rfl rfl ?_
              show pm_R _ 142 31 [.ref 16, .int a0, .int a1, .int a2, .ref l16] [.int 0] _ _
              refine pm_R_br pm_M142 (pc_q := 34) (st_q := []) rfl rfl ?_
              refine pm_R_op pm_M142 (pc_q := 36) (st_q := [.int (-2)]) rfl rfl rfl ?_
              exact pm_R_ret pm_M142 (r := some (.int (-2))) rfl rfl (K (-2))
            · have B44 : sf_B 0 5 a2 := sf_ltL (Int32.not_le.mp c42) B41 (sf_ofB1 h28 h27 (by decide))
              refine pm_R_op pm_M143 (pc_q := 13) (st_q := [.int 1]) rfl rfl rfl ?_
              refine pm_R_br pm_M143 (pc_q := 17) rfl rfl ?_
              refine pm_R_ret pm_M143 (r := some (.int 1)) rfl rfl ?_
              show pm_R _ 142 31 [.ref 16, .int a0, .int a1, .int a2, .ref l16] [.int 1] _ _
              refine pm_R_br pm_M142 (pc_q := 37) (st_q := []) rfl rfl ?_
              refine pm_R_lo pm_M142 (pc_q := 39) rfl rfl rfl ?_
              refine pm_R_get pm_M142 (pc_q := 42) (v := .ref (l16 + 2)) rfl rfl (T.im hk18 (by decide) (by decide) eE30) (G.ge hk18 (by decide)) (T.al hk18 (by decide)) rfl rfl ?_
              refine pm_R_lo pm_M142 (pc_q := 43) rfl rfl rfl ?_
              refine pm_R_lo pm_M142 (pc_q := 45) rfl rfl rfl ?_
              refine pm_R_get pm_M142 (pc_q := 48) (v := .int (Int32.ofNat s22)) rfl rfl (T.im hk18 (by decide) (by decide) eE30) (G.ge hk18 (by decide)) (T.al hk18 (by decide)) rfl rfl ?_
              refine sf_R_imul pm_M142 (pc_q := 49) rfl rfl B38 (sf_ofB1 h28 h27 (by decide)) (by decide) (by decide) (by decide) (fun z45 e46 B47 => ?_)
              refine pm_R_lo pm_M142 (pc_q := 50) rfl rfl rfl ?_
              refine sf_R_iadd pm_M142 (pc_q := 51) rfl rfl B47 B44 (by decide) (by decide) (fun z48 e49 B50 => ?_)
              obtain ⟨z54, ez55⟩ : ∃ y, fg25 (Int32.toNatClampNeg z48) = y := ⟨_, rfl⟩
              refine pm_R_iald pm_M142 (pc_q := 52) (v := z54) rfl (T.im kq35.2.1 (by decide) (by decide) eE32) (T.al kq35.2.1 (by decide)) (cl_inG (s := s22) (n := n23) h28 h29 e49 e46 (Int32.not_lt.mp c36) (cl_ltN h28 (Int32.not_le.mp c42)) B38 B44 (by decide) (by decide)) ez55 rfl ?_
              exact pm_R_ret pm_M142 (r := some (.int z54)) rfl (pm_ret_i _) (K z54)
    · skip
      refine pm_R_op pm_M139 (pc_q := 18) (st_q := [.null]) rfl rfl rfl ?_
      refine pm_R_br pm_M139 (pc_q := 30) rfl rfl ?_
      refine pm_R_ret pm_M139 (r := some (.null)) rfl rfl ?_
      show pm_R _ 142 5 [.ref 16, .int a0, .int a1, .int a2, pm_no] [.null] _ _
      refine pm_R_lo pm_M142 (pc_q := 7) (ls_q := [.ref 16, .int a0, .int a1, .int a2, .null]) (st_q := []) rfl rfl rfl ?_
      refine pm_R_lo pm_M142 (pc_q := 9) rfl rfl rfl ?_
      refine pm_R_br pm_M142 (pc_q := 34) rfl rfl ?_
      refine pm_R_op pm_M142 (pc_q := 36) (st_q := [.int (-2)]) rfl rfl rfl ?_
      exact pm_R_ret pm_M142 (r := some (.int (-2))) rfl rfl (K (-2))

set_option maxRecDepth 100000 in
set_option maxHeartbeats 4000000 in
/-- SilentTable.law -/
theorem cl_c162 {d : Nat} {ck : cl_K} {E : Nat → pm_E} {m : Nat → Int32} {o : Nat → Option Nat} {h : pm_H} {Q : Option Value → pm_H → Prop} {a0 : Int32} {a1 : Int32} {a2 : Int32} (G : cl_G ck E) (T : cl_T ck E m o h)  (K : ∀ (r : Int32), Q (some (.int r)) h) : pm_R (d + 1) 162 0 [.ref 16, .int a0, .int a1, .int a2, pm_no] [] h Q := by
  refine pm_R_lo pm_M162 (pc_q := 1) rfl rfl rfl ?_
  refine pm_R_lo pm_M162 (pc_q := 2) rfl rfl rfl ?_
  refine pm_R_cv pm_M162 (pc_q := 5) (a := 16) (ra := [.int a0]) (rest := []) (ls_q := [.ref 16, .int a0]) rfl rfl (Or.inl rfl) pm_M163 T.e16 rfl (by decide) (T.lt (by decide)) rfl rfl (Nat.le_of_ble_eq_true rfl) rfl rfl ?_
  refine pm_R_lo pm_M163 (pc_q := 1) rfl rfl rfl ?_
  refine pm_R_ifc pm_M163 (t := 17) (pc_q := 4) rfl rfl rfl (fun c1 => ?_) (fun c1 => ?_)
  · have B2 : sf_B (-2147483648) (-1) a0 := sf_ltL c1 (sf_any a0) sf_k0
    refine pm_R_op pm_M163 (pc_q := 18) (st_q := [.null]) rfl rfl rfl ?_
    refine pm_R_br pm_M163 (pc_q := 30) rfl rfl ?_
    refine pm_R_ret pm_M163 (r := some (.null)) rfl rfl ?_
    show pm_R _ 162 5 [.ref 16, .int a0, .int a1, .int a2, pm_no] [.null] _ _
    refine pm_R_lo pm_M162 (pc_q := 7) (ls_q := [.ref 16, .int a0, .int a1, .int a2, .null]) (st_q := []) rfl rfl rfl ?_
    refine pm_R_lo pm_M162 (pc_q := 9) rfl rfl rfl ?_
    refine pm_R_br pm_M162 (pc_q := 21) rfl rfl ?_
    refine pm_R_op pm_M162 (pc_q := 23) (st_q := [.int (-2)]) rfl rfl rfl ?_
    exact pm_R_ret pm_M162 (r := some (.int (-2))) rfl rfl (K (-2))
  · have B3 : sf_B 0 2147483647 a0 := sf_leR (Int32.not_lt.mp c1) sf_k0 (sf_any a0)
    refine pm_R_lo pm_M163 (pc_q := 5) rfl rfl rfl ?_
    refine pm_R_lo pm_M163 (pc_q := 6) rfl rfl rfl ?_
    refine pm_R_get pm_M163 (pc_q := 9) (v := .ref 17) rfl rfl T.e16 (by decide) (T.lt (by decide)) rfl rfl ?_
    refine pm_R_get pm_M163 (pc_q := 12) (v := .ref 23) rfl rfl T.e17 (by decide) (T.lt (by decide)) rfl rfl ?_
    refine pm_R_op pm_M163 (pc_q := 13) (st_q := [.int 3, .ref 23, .int a0]) rfl rfl rfl ?_
    obtain ⟨f7, e8, b9⟩ := T.C 23 (by decide) (by decide)
    obtain ⟨z4, ez5⟩ : ∃ y, f7 (Int32.toNatClampNeg 3) = y := ⟨_, rfl⟩
    have B6 : sf_B 0 2 z4 := ez5 ▸ (b9 3)
    refine pm_R_iald pm_M163 (pc_q := 14) (v := z4) rfl e8 (T.lt (by decide)) rfl ez5 rfl ?_
    refine pm_R_icmp pm_M163 (t := 21) (pc_q := 17) rfl rfl rfl (fun c10 => ?_) (fun c10 => ?_)
    · have B11 : sf_B 0 1 a0 := sf_ltL c10 B3 B6
      have B12 : sf_B 1 2 z4 := sf_ltR c10 B3 B6
      refine pm_R_lo pm_M163 (pc_q := 22) rfl rfl rfl ?_
      refine pm_R_get pm_M163 (pc_q := 25) (v := .ref 17) rfl rfl T.e16 (by decide) (T.lt (by decide)) rfl rfl ?_
      refine pm_R_get pm_M163 (pc_q := 28) (v := .ref 22) rfl rfl T.e17 (by decide) (T.lt (by decide)) rfl rfl ?_
      refine pm_R_lo pm_M163 (pc_q := 29) rfl rfl rfl ?_
      obtain ⟨f13, e14, b15⟩ := T.C 22 (by decide) (by decide)
      obtain ⟨l16, hx17⟩ := cl_there3 T e8 e14 ez5 c10 B11 (by decide)
      have hk18 := b15 _ _ hx17
      refine pm_R_aald pm_M163 (pc_q := 30) (v := .ref l16) rfl e14 (by decide) (by decide) (by decide) (T.lt (by decide)) (sf_in B11 (by decide) (by decide)) (by rw [hx17]; rfl) rfl ?_
      refine pm_R_ret pm_M163 (r := some (.ref l16)) rfl rfl ?_
      show pm_R _ 162 5 [.ref 16, .int a0, .int a1, .int a2, pm_no] [.ref l16] _ _
      refine pm_R_lo pm_M162 (pc_q := 7) (ls_q := [.ref 16, .int a0, .int a1, .int a2, .ref l16]) (st_q := []) rfl rfl rfl ?_
      refine pm_R_lo pm_M162 (pc_q := 9) rfl rfl rfl ?_
      refine pm_R_br pm_M162 (pc_q := 12) rfl rfl ?_
      refine pm_R_lo pm_M162 (pc_q := 13) rfl rfl rfl ?_
      refine pm_R_ifc pm_M162 (t := 21) (pc_q := 16) rfl rfl rfl (fun c19 => ?_) (fun c19 => ?_)
      · have B20 : sf_B (-2147483648) (-1) a2 := sf_ltL c19 (sf_any a2) sf_k0
        refine pm_R_op pm_M162 (pc_q := 23) (st_q := [.int (-2)]) rfl rfl rfl ?_
        exact pm_R_ret pm_M162 (r := some (.int (-2))) rfl rfl (K (-2))
      · have B21 : sf_B 0 2147483647 a2 := sf_leR (Int32.not_lt.mp c19) sf_k0 (sf_any a2)
        refine pm_R_lo pm_M162 (pc_q := 17) rfl rfl rfl ?_
        refine pm_R_op pm_M162 (pc_q := 18) (st_q := [.int 2, .int a2]) rfl rfl rfl ?_
        refine pm_R_icmp pm_M162 (t := 24) (pc_q := 21) rfl rfl rfl (fun c22 => ?_) (fun c22 => ?_)
        · have B23 : sf_B 0 2 a2 := sf_leL c22 B21 sf_k2
          refine pm_R_lo pm_M162 (pc_q := 25) rfl rfl rfl ?_
          refine pm_R_op pm_M162 (pc_q := 26) (st_q := [.int (-1), .int a1]) rfl rfl rfl ?_
          refine pm_R_icmp pm_M162 (t := 44) (pc_q := 29) rfl rfl rfl (fun c24 => ?_) (fun c24 => ?_)
          · skip
            refine pm_R_lo pm_M162 (pc_q := 45) rfl rfl rfl ?_
            refine pm_R_ifc pm_M162 (t := 57) (pc_q := 48) rfl rfl rfl (fun c25 => ?_) (fun c25 => ?_)
            · have B26 : sf_B (-2147483648) (-1) a1 := sf_ltL c25 (sf_any a1) sf_k0
              refine pm_R_op pm_M162 (pc_q := 59) (st_q := [.int (-2)]) rfl rfl rfl ?_
              refine pm_R_br pm_M162 (pc_q := 73) rfl rfl ?_
              exact pm_R_ret pm_M162 (r := some (.int (-2))) rfl rfl (K (-2))
            · have B27 : sf_B 0 2147483647 a1 := sf_leR (Int32.not_lt.mp c25) sf_k0 (sf_any a1)
              refine pm_R_lo pm_M162 (pc_q := 49) rfl rfl rfl ?_
              refine pm_R_lo pm_M162 (pc_q := 51) rfl rfl rfl ?_
              obtain ⟨n28, f29, h30, eE31, eE32, b33⟩ := (G.2.2.2.2.1 l16 hk18).2
              have kq34 := (G.2.2.2.2.1 l16 hk18).1
              refine pm_R_get pm_M162 (pc_q := 54) (v := .int (Int32.ofNat n28)) rfl rfl (T.im hk18 (by decide) (by decide) eE31) (G.ge hk18 (by decide)) (T.al hk18 (by decide)) rfl rfl ?_
              refine pm_R_icmp pm_M162 (t := 62) (pc_q := 57) rfl rfl rfl (fun c35 => ?_) (fun c35 => ?_)
              · have B36 : sf_B 0 7 a1 := sf_ltL c35 B27 (sf_ofB h30 (by decide))
                have B37 : sf_B 1 8 (Int32.ofNat n28) := sf_ltR c35 B27 (sf_ofB h30 (by decide))
                refine pm_R_lo pm_M162 (pc_q := 64) rfl rfl rfl ?_
                refine pm_R_get pm_M162 (pc_q := 67) (v := .ref (l16 + 1)) rfl rfl (T.im hk18 (by decide) (by decide) eE31) (G.ge hk18 (by decide)) (T.al hk18 (by decide)) rfl rfl ?_
                refine pm_R_lo pm_M162 (pc_q := 68) rfl rfl rfl ?_
                refine pm_R_op pm_M162 (pc_q := 69) (st_q := [.int 4, .int a1, .ref (l16 + 1)]) rfl rfl rfl ?_
                refine sf_R_imul pm_M162 (pc_q := 70) rfl rfl B36 sf_k4 (by decide) (by decide) (by decide) (fun z38 e39 B40 => ?_)
                refine pm_R_lo pm_M162 (pc_q := 71) rfl rfl rfl ?_
                refine sf_R_iadd pm_M162 (pc_q := 72) rfl rfl B40 B23 (by decide) (by decide) (fun z41 e42 B43 => ?_)
                have q47 := cl_in4 (n := n28) (Nat.le_trans h30 (by decide)) c35 (cl_aux4 _ _ _ _ e39 e42) B36 (by decide) (cl_c03 B23 (by decide) (by decide))
                obtain ⟨z44, ez45⟩ : ∃ y, f29 (Int32.toNatClampNeg z41) = y := ⟨_, rfl⟩
                refine pm_R_iald pm_M162 (pc_q := 73) (v := z44) rfl (T.im kq34 (by decide) (by decide) eE32) (T.al kq34 (by decide)) q47.1 ez45 rfl ?_
                exact pm_R_ret pm_M162 (r := some (.int z44)) rfl (pm_ret_i _) (K z44)
              · skip
                refine pm_R_op pm_M162 (pc_q := 59) (st_q := [.int (-2)]) rfl rfl rfl ?_
                refine pm_R_br pm_M162 (pc_q := 73) rfl rfl ?_
                exact pm_R_ret pm_M162 (r := some (.int (-2))) rfl rfl (K (-2))
          · have B48 : sf_B (-1) (-1) a1 := sf_eqL (Classical.not_not.mp c24) sf_kn1
            refine pm_R_lo pm_M162 (pc_q := 30) rfl rfl rfl ?_
            refine pm_R_ifc pm_M162 (t := 41) (pc_q := 33) rfl rfl rfl (fun c49 => ?_) (fun c49 => ?_)
            · have B50 : sf_B 1 2 a2 := sf_neL0 c49 sf_k0 B23
              refine pm_R_op pm_M162 (pc_q := 43) (st_q := [.int (-2)]) rfl rfl rfl ?_
              exact pm_R_ret pm_M162 (r := some (.int (-2))) rfl rfl (K (-2))
            · have B51 : sf_B 0 0 a2 := sf_eqL (Classical.not_not.mp c49) sf_k0
              refine pm_R_lo pm_M162 (pc_q := 35) rfl rfl rfl ?_
              obtain ⟨n52, f53, h54, eE55, eE56, b57⟩ := (G.2.2.2.2.1 l16 hk18).2
              have kq58 := (G.2.2.2.2.1 l16 hk18).1
              refine pm_R_get pm_M162 (pc_q := 38) (v := .int (Int32.ofNat n52)) rfl rfl (T.im hk18 (by decide) (by decide) eE55) (G.ge hk18 (by decide)) (T.al hk18 (by decide)) rfl rfl ?_
              refine pm_R_br pm_M162 (pc_q := 43) rfl rfl ?_
              exact pm_R_ret pm_M162 (r := some (.int (Int32.ofNat n52))) rfl (pm_ret_i _) (K (Int32.ofNat n52))
        · have B59 : sf_B 3 2147483647 a2 := sf_ltR (Int32.not_le.mp c22) sf_k2 B21
          refine pm_R_op pm_M162 (pc_q := 23) (st_q := [.int (-2)]) rfl rfl rfl ?_
          exact pm_R_ret pm_M162 (r := some (.int (-2))) rfl rfl (K (-2))
    · skip
      refine pm_R_op pm_M163 (pc_q := 18) (st_q := [.null]) rfl rfl rfl ?_
      refine pm_R_br pm_M163 (pc_q := 30) rfl rfl ?_
      refine pm_R_ret pm_M163 (r := some (.null)) rfl rfl ?_
      show pm_R _ 162 5 [.ref 16, .int a0, .int a1, .int a2, pm_no] [.null] _ _
      refine pm_R_lo pm_M162 (pc_q := 7) (ls_q := [.ref 16, .int a0, .int a1, .int a2, .null]) (st_q := []) rfl rfl rfl ?_
      refine pm_R_lo pm_M162 (pc_q := 9) rfl rfl rfl ?_
      refine pm_R_br pm_M162 (pc_q := 21) rfl rfl ?_
      refine pm_R_op pm_M162 (pc_q := 23) (st_q := [.int (-2)]) rfl rfl rfl ?_
      exact pm_R_ret pm_M162 (r := some (.int (-2))) rfl rfl (K (-2))

set_option maxRecDepth 100000 in
set_option maxHeartbeats 4000000 in
/-- SilentTable.hears -/
theorem cl_c158 {d : Nat} {ck : cl_K} {E : Nat → pm_E} {m : Nat → Int32} {o : Nat → Option Nat} {h : pm_H} {Q : Option Value → pm_H → Prop} {a0 : Int32} {a1 : Int32} (G : cl_G ck E) (T : cl_T ck E m o h)  (K : ∀ (r : Int32), Q (some (.int r)) h) : pm_R (d + 2) 158 0 [.ref 16, .int a0, .int a1, pm_no] [] h Q := by
  refine pm_R_lo pm_M158 (pc_q := 1) rfl rfl rfl ?_
  refine pm_R_lo pm_M158 (pc_q := 2) rfl rfl rfl ?_
  refine pm_R_cv pm_M158 (pc_q := 5) (a := 16) (ra := [.int a0]) (rest := []) (ls_q := [.ref 16, .int a0]) rfl rfl (Or.inl rfl) pm_M139 T.e16 rfl (by decide) (T.lt (by decide)) rfl rfl (Nat.le_of_ble_eq_true rfl) rfl rfl ?_
  refine pm_R_lo pm_M139 (pc_q := 1) rfl rfl rfl ?_
  refine pm_R_ifc pm_M139 (t := 17) (pc_q := 4) rfl rfl rfl (fun c1 => ?_) (fun c1 => ?_)
  · have B2 : sf_B (-2147483648) (-1) a0 := sf_ltL c1 (sf_any a0) sf_k0
    refine pm_R_op pm_M139 (pc_q := 18) (st_q := [.null]) rfl rfl rfl ?_
    refine pm_R_br pm_M139 (pc_q := 30) rfl rfl ?_
    refine pm_R_ret pm_M139 (r := some (.null)) rfl rfl ?_
    show pm_R _ 158 5 [.ref 16, .int a0, .int a1, pm_no] [.null] _ _
    refine pm_R_lo pm_M158 (pc_q := 6) (ls_q := [.ref 16, .int a0, .int a1, .null]) (st_q := []) rfl rfl rfl ?_
    refine pm_R_lo pm_M158 (pc_q := 7) rfl rfl rfl ?_
    refine pm_R_br pm_M158 (pc_q := 10) rfl rfl ?_
    refine pm_R_op pm_M158 (pc_q := 12) (st_q := [.int (-2)]) rfl rfl rfl ?_
    exact pm_R_ret pm_M158 (r := some (.int (-2))) rfl rfl (K (-2))
  · have B3 : sf_B 0 2147483647 a0 := sf_leR (Int32.not_lt.mp c1) sf_k0 (sf_any a0)
    refine pm_R_lo pm_M139 (pc_q := 5) rfl rfl rfl ?_
    refine pm_R_lo pm_M139 (pc_q := 6) rfl rfl rfl ?_
    refine pm_R_get pm_M139 (pc_q := 9) (v := .ref 17) rfl rfl T.e16 (by decide) (T.lt (by decide)) rfl rfl ?_
    refine pm_R_get pm_M139 (pc_q := 12) (v := .ref 23) rfl rfl T.e17 (by decide) (T.lt (by decide)) rfl rfl ?_
    refine pm_R_op pm_M139 (pc_q := 13) (st_q := [.int 2, .ref 23, .int a0]) rfl rfl rfl ?_
    obtain ⟨f7, e8, b9⟩ := T.C 23 (by decide) (by decide)
    obtain ⟨z4, ez5⟩ : ∃ y, f7 (Int32.toNatClampNeg 2) = y := ⟨_, rfl⟩
    have B6 : sf_B 0 2 z4 := ez5 ▸ (b9 2)
    refine pm_R_iald pm_M139 (pc_q := 14) (v := z4) rfl e8 (T.lt (by decide)) rfl ez5 rfl ?_
    refine pm_R_icmp pm_M139 (t := 21) (pc_q := 17) rfl rfl rfl (fun c10 => ?_) (fun c10 => ?_)
    · have B11 : sf_B 0 1 a0 := sf_ltL c10 B3 B6
      have B12 : sf_B 1 2 z4 := sf_ltR c10 B3 B6
      refine pm_R_lo pm_M139 (pc_q := 22) rfl rfl rfl ?_
      refine pm_R_get pm_M139 (pc_q := 25) (v := .ref 17) rfl rfl T.e16 (by decide) (T.lt (by decide)) rfl rfl ?_
      refine pm_R_get pm_M139 (pc_q := 28) (v := .ref 21) rfl rfl T.e17 (by decide) (T.lt (by decide)) rfl rfl ?_
      refine pm_R_lo pm_M139 (pc_q := 29) rfl rfl rfl ?_
      obtain ⟨f13, e14, b15⟩ := T.C 21 (by decide) (by decide)
      obtain ⟨l16, hx17⟩ := cl_there2 T e8 e14 ez5 c10 B11 (by decide)
      have hk18 := b15 _ _ hx17
      refine pm_R_aald pm_M139 (pc_q := 30) (v := .ref l16) rfl e14 (by decide) (by decide) (by decide) (T.lt (by decide)) (sf_in B11 (by decide) (by decide)) (by rw [hx17]; rfl) rfl ?_
      refine pm_R_ret pm_M139 (r := some (.ref l16)) rfl rfl ?_
      show pm_R _ 158 5 [.ref 16, .int a0, .int a1, pm_no] [.ref l16] _ _
      refine pm_R_lo pm_M158 (pc_q := 6) (ls_q := [.ref 16, .int a0, .int a1, .ref l16]) (st_q := []) rfl rfl rfl ?_
      refine pm_R_lo pm_M158 (pc_q := 7) rfl rfl rfl ?_
      refine pm_R_br pm_M158 (pc_q := 13) rfl rfl ?_
      refine pm_R_lo pm_M158 (pc_q := 14) rfl rfl rfl ?_
      refine pm_R_ifc pm_M158 (t := 22) (pc_q := 17) rfl rfl rfl (fun c19 => ?_) (fun c19 => ?_)
      · skip
        refine pm_R_lo pm_M158 (pc_q := 23) rfl rfl rfl ?_
        refine pm_R_op pm_M158 (pc_q := 24) (st_q := [.int 1, .int a1]) rfl rfl rfl ?_
        refine pm_R_icmp pm_M158 (t := 32) (pc_q := 27) rfl rfl rfl (fun c20 => ?_) (fun c20 => ?_)
        · skip
          refine pm_R_lo pm_M158 (pc_q := 33) rfl rfl rfl ?_
          refine pm_R_op pm_M158 (pc_q := 35) (st_q := [.int 10, .int a1]) rfl rfl rfl ?_
          refine pm_R_icmp pm_M158 (t := 60) (pc_q := 38) rfl rfl rfl (fun c21 => ?_) (fun c21 => ?_)
          · have B22 : sf_B (-2147483648) 9 a1 := sf_ltL c21 (sf_any a1) sf_k10
            refine pm_R_op pm_M158 (pc_q := 62) (st_q := [.int (-2)]) rfl rfl rfl ?_
            exact pm_R_ret pm_M158 (r := some (.int (-2))) rfl rfl (K (-2))
          · have B23 : sf_B 10 2147483647 a1 := sf_leR (Int32.not_lt.mp c21) sf_k10 (sf_any a1)
            refine pm_R_lo pm_M158 (pc_q := 39) rfl rfl rfl ?_
            refine pm_R_lo pm_M158 (pc_q := 40) rfl rfl rfl ?_
            refine pm_R_op pm_M158 (pc_q := 42) (st_q := [.int 10, .int a1, .ref l16]) rfl rfl rfl ?_
            refine sf_R_isub pm_M158 (pc_q := 43) rfl rfl B23 sf_k10 (by decide) (by decide) (fun z24 e25 B26 => ?_)
            obtain ⟨s27, n28, fd29, fg30, fs31, h32, h33, h34, eE35, eE36, eE37, eE38, b39⟩ := (G.2.2.2.1 l16 hk18).2.2.2
            have kq40 := G.2.2.2.1 l16 hk18
            refine pm_R_cv pm_M158 (pc_q := 46) (a := l16) (ra := [.int z24]) (rest := []) (ls_q := [.ref l16, .int z24]) rfl rfl (Or.inl rfl) pm_M143 (T.im hk18 (by decide) (by decide) eE35) rfl (G.ge hk18 (by decide)) (T.al hk18 (by decide)) rfl rfl (Nat.le_of_ble_eq_true rfl) rfl rfl ?_
            refine pm_R_lo pm_M143 (pc_q := 1) rfl rfl rfl ?_
            refine pm_R_ifc pm_M143 (t := 16) (pc_q := 4) rfl rfl rfl (fun c41 => absurd c41 (sf_nlt B26 sf_k0 (by decide))) (fun c41 => ?_)
            skip
            refine pm_R_lo pm_M143 (pc_q := 5) rfl rfl rfl ?_
            refine pm_R_lo pm_M143 (pc_q := 6) rfl rfl rfl ?_
            refine pm_R_get pm_M143 (pc_q := 9) (v := .int (Int32.ofNat s27)) rfl rfl (T.im hk18 (by decide) (by decide) eE35) (G.ge hk18 (by decide)) (T.al hk18 (by decide)) rfl rfl ?_
            refine pm_R_icmp pm_M143 (t := 16) (pc_q := 12) rfl rfl rfl (fun c42 => ?_) (fun c42 => ?_)
            · have B43 : sf_B 1 2147483637 z24 := sf_leR c42 (sf_ofB1 h33 h32 (by decide)) B26
              refine pm_R_op pm_M143 (pc_q := 17) (st_q := [.int 0]) rfl rfl rfl ?_
              refine pm_R_ret pm_M143 (r := some (.int 0)) rfl rfl ?_
              show pm_R _ 158 46 [.ref 16, .int a0, .int a1, .ref l16] [.int 0] _ _
              refine pm_R_br pm_M158 (pc_q := 60) (st_q := []) rfl rfl ?_
              refine pm_R_op pm_M158 (pc_q := 62) (st_q := [.int (-2)]) rfl rfl rfl ?_
              exact pm_R_ret pm_M158 (r := some (.int (-2))) rfl rfl (K (-2))
            · have B44 : sf_B 0 5 z24 := sf_ltL (Int32.not_le.mp c42) B26 (sf_ofB1 h33 h32 (by decide))
              refine pm_R_op pm_M143 (pc_q := 13) (st_q := [.int 1]) rfl rfl rfl ?_
              refine pm_R_br pm_M143 (pc_q := 17) rfl rfl ?_
              refine pm_R_ret pm_M143 (r := some (.int 1)) rfl rfl ?_
              show pm_R _ 158 46 [.ref 16, .int a0, .int a1, .ref l16] [.int 1] _ _
              refine pm_R_br pm_M158 (pc_q := 49) (st_q := []) rfl rfl ?_
              refine pm_R_lo pm_M158 (pc_q := 50) rfl rfl rfl ?_
              refine pm_R_lo pm_M158 (pc_q := 51) rfl rfl rfl ?_
              refine pm_R_op pm_M158 (pc_q := 53) (st_q := [.int 10, .int a1, .ref l16]) rfl rfl rfl ?_
              refine sf_R_isubV pm_M158 (pc_q := 54) rfl rfl B23 sf_k10 (by decide) (by decide) e25 ?_
              refine pm_R_cv pm_M158 (pc_q := 57) (a := l16) (ra := [.int z24]) (rest := []) (ls_q := [.ref l16, .int z24, pm_no, pm_no]) rfl rfl (Or.inl rfl) pm_M161 (T.im hk18 (by decide) (by decide) eE35) rfl (G.ge hk18 (by decide)) (T.al hk18 (by decide)) rfl rfl (Nat.le_of_ble_eq_true rfl) rfl rfl ?_
              refine cl_c161 (d := d + 1) G T hk18 B44 (fun r45 => ?_)
              show pm_R _ 158 57 [.ref 16, .int a0, .int a1, .ref l16] [.int r45] _ _
              refine pm_R_br pm_M158 (pc_q := 62) rfl rfl ?_
              exact pm_R_ret pm_M158 (r := some (.int r45)) rfl (pm_ret_i _) (K r45)
        · have B52 : sf_B 1 1 a1 := sf_eqL (Classical.not_not.mp c20) sf_k1
          refine pm_R_lo pm_M158 (pc_q := 28) rfl rfl rfl ?_
          obtain ⟨s53, n54, fd55, fg56, fs57, h58, h59, h60, eE61, eE62, eE63, eE64, b65⟩ := (G.2.2.2.1 l16 hk18).2.2.2
          have kq66 := G.2.2.2.1 l16 hk18
          refine pm_R_cv pm_M158 (pc_q := 31) (a := l16) (ra := []) (rest := []) (ls_q := [.ref l16, pm_no, pm_no]) rfl rfl (Or.inl rfl) pm_M160 (T.im hk18 (by decide) (by decide) eE61) rfl (G.ge hk18 (by decide)) (T.al hk18 (by decide)) rfl rfl (Nat.le_of_ble_eq_true rfl) rfl rfl ?_
          refine cl_c160 (d := d + 0) G T hk18 (fun r67 => ?_)
          show pm_R _ 158 31 [.ref 16, .int a0, .int a1, .ref l16] [.int r67] _ _
          exact pm_R_ret pm_M158 (r := some (.int r67)) rfl (pm_ret_i _) (K r67)
      · have B74 : sf_B 0 0 a1 := sf_eqL (Classical.not_not.mp c19) sf_k0
        refine pm_R_lo pm_M158 (pc_q := 18) rfl rfl rfl ?_
        obtain ⟨s75, n76, fd77, fg78, fs79, h80, h81, h82, eE83, eE84, eE85, eE86, b87⟩ := (G.2.2.2.1 l16 hk18).2.2.2
        have kq88 := G.2.2.2.1 l16 hk18
        refine pm_R_cv pm_M158 (pc_q := 21) (a := l16) (ra := []) (rest := []) (ls_q := [.ref l16, pm_no, pm_no, pm_no, pm_no, pm_no]) rfl rfl (Or.inl rfl) pm_M159 (T.im hk18 (by decide) (by decide) eE83) rfl (G.ge hk18 (by decide)) (T.al hk18 (by decide)) rfl rfl (Nat.le_of_ble_eq_true rfl) rfl rfl ?_
        refine cl_c159 (d := d + 0) G T hk18 (fun r89 B90 => ?_)
        show pm_R _ 158 21 [.ref 16, .int a0, .int a1, .ref l16] [.int r89] _ _
        exact pm_R_ret pm_M158 (r := some (.int r89)) rfl (pm_ret_i _) (K r89)
    · skip
      refine pm_R_op pm_M139 (pc_q := 18) (st_q := [.null]) rfl rfl rfl ?_
      refine pm_R_br pm_M139 (pc_q := 30) rfl rfl ?_
      refine pm_R_ret pm_M139 (r := some (.null)) rfl rfl ?_
      show pm_R _ 158 5 [.ref 16, .int a0, .int a1, pm_no] [.null] _ _
      refine pm_R_lo pm_M158 (pc_q := 6) (ls_q := [.ref 16, .int a0, .int a1, .null]) (st_q := []) rfl rfl rfl ?_
      refine pm_R_lo pm_M158 (pc_q := 7) rfl rfl rfl ?_
      refine pm_R_br pm_M158 (pc_q := 10) rfl rfl ?_
      refine pm_R_op pm_M158 (pc_q := 12) (st_q := [.int (-2)]) rfl rfl rfl ?_
      exact pm_R_ret pm_M158 (r := some (.int (-2))) rfl rfl (K (-2))

set_option maxRecDepth 100000 in
set_option maxHeartbeats 4000000 in
/-- SilentTable.passed -/
theorem cl_c151 {d : Nat} {ck : cl_K} {E : Nat → pm_E} {m : Nat → Int32} {o : Nat → Option Nat} {h : pm_H} {Q : Option Value → pm_H → Prop} {a0 : Int32} {a1 : Int32} {a2 : Int32} (G : cl_G ck E) (T : cl_T ck E m o h)  (K : ∀ (r : Int32), sf_B (-1) 5 r → Q (some (.int r)) h) : pm_R (d + 4) 151 0 [.ref 16, .int a0, .int a1, .int a2] [] h Q := by
  refine pm_R_lo pm_M151 (pc_q := 1) rfl rfl rfl ?_
  refine pm_R_lo pm_M151 (pc_q := 2) rfl rfl rfl ?_
  refine pm_R_lo pm_M151 (pc_q := 3) rfl rfl rfl ?_
  refine pm_R_lo pm_M151 (pc_q := 4) rfl rfl rfl ?_
  refine pm_R_cv pm_M151 (pc_q := 7) (a := 16) (ra := [.int a2, .int a1, .int a0]) (rest := []) (ls_q := [.ref 16, .int a0, .int a1, .int a2, pm_no]) rfl rfl (Or.inl rfl) pm_M152 T.e16 rfl (by decide) (T.lt (by decide)) rfl rfl (Nat.le_of_ble_eq_true rfl) rfl rfl ?_
  refine pm_R_lo pm_M152 (pc_q := 1) rfl rfl rfl ?_
  refine pm_R_lo pm_M152 (pc_q := 2) rfl rfl rfl ?_
  refine pm_R_cv pm_M152 (pc_q := 5) (a := 16) (ra := [.int a0]) (rest := []) (ls_q := [.ref 16, .int a0]) rfl rfl (Or.inl rfl) pm_M139 T.e16 rfl (by decide) (T.lt (by decide)) rfl rfl (Nat.le_of_ble_eq_true rfl) rfl rfl ?_
  refine pm_R_lo pm_M139 (pc_q := 1) rfl rfl rfl ?_
  refine pm_R_ifc pm_M139 (t := 17) (pc_q := 4) rfl rfl rfl (fun c1 => ?_) (fun c1 => ?_)
  · have B2 : sf_B (-2147483648) (-1) a0 := sf_ltL c1 (sf_any a0) sf_k0
    refine pm_R_op pm_M139 (pc_q := 18) (st_q := [.null]) rfl rfl rfl ?_
    refine pm_R_br pm_M139 (pc_q := 30) rfl rfl ?_
    refine pm_R_ret pm_M139 (r := some (.null)) rfl rfl ?_
    show pm_R _ 152 5 [.ref 16, .int a0, .int a1, .int a2, pm_no] [.null] _ _
    refine pm_R_lo pm_M152 (pc_q := 7) (ls_q := [.ref 16, .int a0, .int a1, .int a2, .null]) (st_q := []) rfl rfl rfl ?_
    refine pm_R_lo pm_M152 (pc_q := 9) rfl rfl rfl ?_
    refine pm_R_br pm_M152 (pc_q := 35) rfl rfl ?_
    refine pm_R_op pm_M152 (pc_q := 36) (st_q := [.int (-1)]) rfl rfl rfl ?_
    refine pm_R_ret pm_M152 (r := some (.int (-1))) rfl rfl ?_
    show pm_R _ 151 7 [.ref 16, .int a0, .int a1, .int a2] [.int (-1)] _ _
    exact pm_R_ret pm_M151 (r := some (.int (-1))) rfl rfl (K (-1) (sf_weak sf_kn1 (by decide) (by decide)))
  · have B3 : sf_B 0 2147483647 a0 := sf_leR (Int32.not_lt.mp c1) sf_k0 (sf_any a0)
    refine pm_R_lo pm_M139 (pc_q := 5) rfl rfl rfl ?_
    refine pm_R_lo pm_M139 (pc_q := 6) rfl rfl rfl ?_
    refine pm_R_get pm_M139 (pc_q := 9) (v := .ref 17) rfl rfl T.e16 (by decide) (T.lt (by decide)) rfl rfl ?_
    refine pm_R_get pm_M139 (pc_q := 12) (v := .ref 23) rfl rfl T.e17 (by decide) (T.lt (by decide)) rfl rfl ?_
    refine pm_R_op pm_M139 (pc_q := 13) (st_q := [.int 2, .ref 23, .int a0]) rfl rfl rfl ?_
    obtain ⟨f7, e8, b9⟩ := T.C 23 (by decide) (by decide)
    obtain ⟨z4, ez5⟩ : ∃ y, f7 (Int32.toNatClampNeg 2) = y := ⟨_, rfl⟩
    have B6 : sf_B 0 2 z4 := ez5 ▸ (b9 2)
    refine pm_R_iald pm_M139 (pc_q := 14) (v := z4) rfl e8 (T.lt (by decide)) rfl ez5 rfl ?_
    refine pm_R_icmp pm_M139 (t := 21) (pc_q := 17) rfl rfl rfl (fun c10 => ?_) (fun c10 => ?_)
    · have B11 : sf_B 0 1 a0 := sf_ltL c10 B3 B6
      have B12 : sf_B 1 2 z4 := sf_ltR c10 B3 B6
      refine pm_R_lo pm_M139 (pc_q := 22) rfl rfl rfl ?_
      refine pm_R_get pm_M139 (pc_q := 25) (v := .ref 17) rfl rfl T.e16 (by decide) (T.lt (by decide)) rfl rfl ?_
      refine pm_R_get pm_M139 (pc_q := 28) (v := .ref 21) rfl rfl T.e17 (by decide) (T.lt (by decide)) rfl rfl ?_
      refine pm_R_lo pm_M139 (pc_q := 29) rfl rfl rfl ?_
      obtain ⟨f13, e14, b15⟩ := T.C 21 (by decide) (by decide)
      obtain ⟨l16, hx17⟩ := cl_there2 T e8 e14 ez5 c10 B11 (by decide)
      have hk18 := b15 _ _ hx17
      refine pm_R_aald pm_M139 (pc_q := 30) (v := .ref l16) rfl e14 (by decide) (by decide) (by decide) (T.lt (by decide)) (sf_in B11 (by decide) (by decide)) (by rw [hx17]; rfl) rfl ?_
      refine pm_R_ret pm_M139 (r := some (.ref l16)) rfl rfl ?_
      show pm_R _ 152 5 [.ref 16, .int a0, .int a1, .int a2, pm_no] [.ref l16] _ _
      refine pm_R_lo pm_M152 (pc_q := 7) (ls_q := [.ref 16, .int a0, .int a1, .int a2, .ref l16]) (st_q := []) rfl rfl rfl ?_
      refine pm_R_lo pm_M152 (pc_q := 9) rfl rfl rfl ?_
      refine pm_R_br pm_M152 (pc_q := 12) rfl rfl ?_
      refine pm_R_lo pm_M152 (pc_q := 13) rfl rfl rfl ?_
      refine pm_R_lo pm_M152 (pc_q := 14) rfl rfl rfl ?_
      refine pm_R_icmp pm_M152 (t := 35) (pc_q := 17) rfl rfl rfl (fun c19 => ?_) (fun c19 => ?_)
      · refine pm_R_op pm_M152 (pc_q := 36) (st_q := [.int (-1)]) rfl rfl rfl ?_
        refine pm_R_ret pm_M152 (r := some (.int (-1))) rfl rfl ?_
        show pm_R _ 151 7 [.ref 16, .int a0, .int a1, .int a2] [.int (-1)] _ _
        exact pm_R_ret pm_M151 (r := some (.int (-1))) rfl rfl (K (-1) (sf_weak sf_kn1 (by decide) (by decide)))
      · skip
        refine pm_R_lo pm_M152 (pc_q := 19) rfl rfl rfl ?_
        refine pm_R_lo pm_M152 (pc_q := 20) rfl rfl rfl ?_
        obtain ⟨s20, n21, fd22, fg23, fs24, h25, h26, h27, eE28, eE29, eE30, eE31, b32⟩ := (G.2.2.2.1 l16 hk18).2.2.2
        have kq33 := G.2.2.2.1 l16 hk18
        refine pm_R_cv pm_M152 (pc_q := 23) (a := l16) (ra := [.int a1]) (rest := []) (ls_q := [.ref l16, .int a1]) rfl rfl (Or.inl rfl) pm_M143 (T.im hk18 (by decide) (by decide) eE28) rfl (G.ge hk18 (by decide)) (T.al hk18 (by decide)) rfl rfl (Nat.le_of_ble_eq_true rfl) rfl rfl ?_
        refine pm_R_lo pm_M143 (pc_q := 1) rfl rfl rfl ?_
        refine pm_R_ifc pm_M143 (t := 16) (pc_q := 4) rfl rfl rfl (fun c34 => ?_) (fun c34 => ?_)
        · have B35 : sf_B (-2147483648) (-1) a1 := sf_ltL c34 (sf_any a1) sf_k0
          refine pm_R_op pm_M143 (pc_q := 17) (st_q := [.int 0]) rfl rfl rfl ?_
          refine pm_R_ret pm_M143 (r := some (.int 0)) rfl rfl ?_
          show pm_R _ 152 23 [.ref 16, .int a0, .int a1, .int a2, .ref l16] [.int 0] _ _
          refine pm_R_br pm_M152 (pc_q := 35) (st_q := []) rfl rfl ?_
          refine pm_R_op pm_M152 (pc_q := 36) (st_q := [.int (-1)]) rfl rfl rfl ?_
          refine pm_R_ret pm_M152 (r := some (.int (-1))) rfl rfl ?_
          show pm_R _ 151 7 [.ref 16, .int a0, .int a1, .int a2] [.int (-1)] _ _
          exact pm_R_ret pm_M151 (r := some (.int (-1))) rfl rfl (K (-1) (sf_weak sf_kn1 (by decide) (by decide)))
        · have B36 : sf_B 0 2147483647 a1 := sf_leR (Int32.not_lt.mp c34) sf_k0 (sf_any a1)
          refine pm_R_lo pm_M143 (pc_q := 5) rfl rfl rfl ?_
          refine pm_R_lo pm_M143 (pc_q := 6) rfl rfl rfl ?_
          refine pm_R_get pm_M143 (pc_q := 9) (v := .int (Int32.ofNat s20)) rfl rfl (T.im hk18 (by decide) (by decide) eE28) (G.ge hk18 (by decide)) (T.al hk18 (by decide)) rfl rfl ?_
          refine pm_R_icmp pm_M143 (t := 16) (pc_q := 12) rfl rfl rfl (fun c37 => ?_) (fun c37 => ?_)
          · have B38 : sf_B 1 2147483647 a1 := sf_leR c37 (sf_ofB1 h26 h25 (by decide)) B36
            refine pm_R_op pm_M143 (pc_q := 17) (st_q := [.int 0]) rfl rfl rfl ?_
            refine pm_R_ret pm_M143 (r := some (.int 0)) rfl rfl ?_
            show pm_R _ 152 23 [.ref 16, .int a0, .int a1, .int a2, .ref l16] [.int 0] _ _
            refine pm_R_br pm_M152 (pc_q := 35) (st_q := []) rfl rfl ?_
            refine pm_R_op pm_M152 (pc_q := 36) (st_q := [.int (-1)]) rfl rfl rfl ?_
            refine pm_R_ret pm_M152 (r := some (.int (-1))) rfl rfl ?_
            show pm_R _ 151 7 [.ref 16, .int a0, .int a1, .int a2] [.int (-1)] _ _
            exact pm_R_ret pm_M151 (r := some (.int (-1))) rfl rfl (K (-1) (sf_weak sf_kn1 (by decide) (by decide)))
          · have B39 : sf_B 0 5 a1 := sf_ltL (Int32.not_le.mp c37) B36 (sf_ofB1 h26 h25 (by decide))
            refine pm_R_op pm_M143 (pc_q := 13) (st_q := [.int 1]) rfl rfl rfl ?_
            refine pm_R_br pm_M143 (pc_q := 17) rfl rfl ?_
            refine pm_R_ret pm_M143 (r := some (.int 1)) rfl rfl ?_
            show pm_R _ 152 23 [.ref 16, .int a0, .int a1, .int a2, .ref l16] [.int 1] _ _
            refine pm_R_br pm_M152 (pc_q := 26) (st_q := []) rfl rfl ?_
            refine pm_R_lo pm_M152 (pc_q := 28) rfl rfl rfl ?_
            refine pm_R_lo pm_M152 (pc_q := 29) rfl rfl rfl ?_
            refine pm_R_cv pm_M152 (pc_q := 32) (a := l16) (ra := [.int a2]) (rest := []) (ls_q := [.ref l16, .int a2]) rfl rfl (Or.inl rfl) pm_M143 (T.im hk18 (by decide) (by decide) eE28) rfl (G.ge hk18 (by decide)) (T.al hk18 (by decide)) rfl rfl (Nat.le_of_ble_eq_true rfl) rfl rfl ?_
            refine pm_R_lo pm_M143 (pc_q := 1) rfl rfl rfl ?_
            refine pm_R_ifc pm_M143 (t := 16) (pc_q := 4) rfl rfl rfl (fun c40 => ?_) (fun c40 => ?_)
            · have B41 : sf_B (-2147483648) (-1) a2 := sf_ltL c40 (sf_any a2) sf_k0
              refine pm_R_op pm_M143 (pc_q := 17) (st_q := [.int 0]) rfl rfl rfl ?_
              refine pm_R_ret pm_M143 (r := some (.int 0)) rfl rfl ?_
              show pm_R _ 152 32 [.ref 16, .int a0, .int a1, .int a2, .ref l16] [.int 0] _ _
              refine pm_R_br pm_M152 (pc_q := 35) (st_q := []) rfl rfl ?_
              refine pm_R_op pm_M152 (pc_q := 36) (st_q := [.int (-1)]) rfl rfl rfl ?_
              refine pm_R_ret pm_M152 (r := some (.int (-1))) rfl rfl ?_
              show pm_R _ 151 7 [.ref 16, .int a0, .int a1, .int a2] [.int (-1)] _ _
              exact pm_R_ret pm_M151 (r := some (.int (-1))) rfl rfl (K (-1) (sf_weak sf_kn1 (by decide) (by decide)))
            · have B42 : sf_B 0 2147483647 a2 := sf_leR (Int32.not_lt.mp c40) sf_k0 (sf_any a2)
              refine pm_R_lo pm_M143 (pc_q := 5) rfl rfl rfl ?_
              refine pm_R_lo pm_M143 (pc_q := 6) rfl rfl rfl ?_
              refine pm_R_get pm_M143 (pc_q := 9) (v := .int (Int32.ofNat s20)) rfl rfl (T.im hk18 (by decide) (by decide) eE28) (G.ge hk18 (by decide)) (T.al hk18 (by decide)) rfl rfl ?_
              refine pm_R_icmp pm_M143 (t := 16) (pc_q := 12) rfl rfl rfl (fun c43 => ?_) (fun c43 => ?_)
              · have B44 : sf_B 1 2147483647 a2 := sf_leR c43 (sf_ofB1 h26 h25 (by decide)) B42
                refine pm_R_op pm_M143 (pc_q := 17) (st_q := [.int 0]) rfl rfl rfl ?_
                refine pm_R_ret pm_M143 (r := some (.int 0)) rfl rfl ?_
                show pm_R _ 152 32 [.ref 16, .int a0, .int a1, .int a2, .ref l16] [.int 0] _ _
                refine pm_R_br pm_M152 (pc_q := 35) (st_q := []) rfl rfl ?_
                refine pm_R_op pm_M152 (pc_q := 36) (st_q := [.int (-1)]) rfl rfl rfl ?_
                refine pm_R_ret pm_M152 (r := some (.int (-1))) rfl rfl ?_
                show pm_R _ 151 7 [.ref 16, .int a0, .int a1, .int a2] [.int (-1)] _ _
                exact pm_R_ret pm_M151 (r := some (.int (-1))) rfl rfl (K (-1) (sf_weak sf_kn1 (by decide) (by decide)))
              · have B45 : sf_B 0 5 a2 := sf_ltL (Int32.not_le.mp c43) B42 (sf_ofB1 h26 h25 (by decide))
                refine pm_R_op pm_M143 (pc_q := 13) (st_q := [.int 1]) rfl rfl rfl ?_
                refine pm_R_br pm_M143 (pc_q := 17) rfl rfl ?_
                refine pm_R_ret pm_M143 (r := some (.int 1)) rfl rfl ?_
                show pm_R _ 152 32 [.ref 16, .int a0, .int a1, .int a2, .ref l16] [.int 1] _ _
                refine pm_R_br pm_M152 (pc_q := 37) (st_q := []) rfl rfl ?_
                refine pm_R_lo pm_M152 (pc_q := 39) rfl rfl rfl ?_
                refine pm_R_lo pm_M152 (pc_q := 40) rfl rfl rfl ?_
                refine pm_R_lo pm_M152 (pc_q := 41) rfl rfl rfl ?_
                refine pm_R_cv pm_M152 (pc_q := 44) (a := l16) (ra := [.int a2, .int a1]) (rest := []) (ls_q := [.ref l16, .int a1, .int a2, pm_no, pm_no]) rfl rfl (Or.inl rfl) pm_M153 (T.im hk18 (by decide) (by decide) eE28) rfl (G.ge hk18 (by decide)) (T.al hk18 (by decide)) rfl rfl (Nat.le_of_ble_eq_true rfl) rfl rfl ?_
                refine cl_c153 (d := d + 0) G T hk18 B39 B45 (fun r46 X53 B47 => ?_)
                show pm_R _ 152 44 [.ref 16, .int a0, .int a1, .int a2, .ref l16] [.int r46] _ _
                refine pm_R_ret pm_M152 (r := some (.int r46)) rfl (pm_ret_i _) ?_
                show pm_R _ 151 7 [.ref 16, .int a0, .int a1, .int a2] [.int r46] _ _
                exact pm_R_ret pm_M151 (r := some (.int r46)) rfl (pm_ret_i _) (K r46 B47)
    · skip
      refine pm_R_op pm_M139 (pc_q := 18) (st_q := [.null]) rfl rfl rfl ?_
      refine pm_R_br pm_M139 (pc_q := 30) rfl rfl ?_
      refine pm_R_ret pm_M139 (r := some (.null)) rfl rfl ?_
      show pm_R _ 152 5 [.ref 16, .int a0, .int a1, .int a2, pm_no] [.null] _ _
      refine pm_R_lo pm_M152 (pc_q := 7) (ls_q := [.ref 16, .int a0, .int a1, .int a2, .null]) (st_q := []) rfl rfl rfl ?_
      refine pm_R_lo pm_M152 (pc_q := 9) rfl rfl rfl ?_
      refine pm_R_br pm_M152 (pc_q := 35) rfl rfl ?_
      refine pm_R_op pm_M152 (pc_q := 36) (st_q := [.int (-1)]) rfl rfl rfl ?_
      refine pm_R_ret pm_M152 (r := some (.int (-1))) rfl rfl ?_
      show pm_R _ 151 7 [.ref 16, .int a0, .int a1, .int a2] [.int (-1)] _ _
      exact pm_R_ret pm_M151 (r := some (.int (-1))) rfl rfl (K (-1) (sf_weak sf_kn1 (by decide) (by decide)))

set_option maxRecDepth 100000 in
set_option maxHeartbeats 4000000 in
/-- java/util/Arrays.fill -/
theorem cl_c102_32 {d : Nat} {ck : cl_K} {E : Nat → pm_E} {m : Nat → Int32} {o : Nat → Option Nat} {h : pm_H} {Q : Option Value → pm_H → Prop} {a1 : Int32} {a2 : Int32} {a3 : Int64} (G : cl_G ck E) (T : cl_T ck E m o h) (Ba1 : sf_B 0 468 a1) (Ba2 : sf_B 0 468 a2) (R : a1 ≤ a2) (K : ∀ (m_q : Nat → Int32) (h_q : pm_H), cl_T ck E m_q o h_q → cl_F ck [32] 0 0 h h_q → rf_W [] m m_q → Q none h_q) : pm_R (d + 1) 102 0 [.ref 32, .int a1, .int a2, .long a3, pm_no, pm_no] [] h Q := by
  refine pm_R_lo pm_M102 (pc_q := 1) rfl rfl rfl ?_
  obtain ⟨f1, e2⟩ := T.C 32 (by decide) (by decide)
  refine pm_R_alen pm_M102 (pc_q := 2) (v := 468) rfl e2 (by decide) (T.lt (by decide)) (by decide) rfl rfl ?_
  refine pm_R_lo pm_M102 (pc_q := 3) rfl rfl rfl ?_
  refine pm_R_lo pm_M102 (pc_q := 4) rfl rfl rfl ?_
  refine pm_R_cs pm_M102 (pc_q := 7) (ra := [.int a2, .int a1, .int 468]) (rest := []) (ls_q := [.int 468, .int a1, .int a2]) rfl rfl (Or.inl rfl) pm_M50 rfl rfl (Nat.le_of_ble_eq_true rfl) rfl rfl ?_
  refine pm_R_lo pm_M50 (pc_q := 1) rfl rfl rfl ?_
  refine pm_R_lo pm_M50 (pc_q := 2) rfl rfl rfl ?_
  refine pm_R_icmp pm_M50 (t := 46) (pc_q := 5) rfl rfl rfl (fun c4 => ?_) (fun c4 => absurd (Int32.not_le.mp c4) (Int32.not_lt.mpr R))
  skip
  refine pm_R_lo pm_M50 (pc_q := 47) rfl rfl rfl ?_
  refine pm_R_ifc pm_M50 (t := 59) (pc_q := 50) rfl rfl rfl (fun c5 => ?_) (fun c5 => absurd (Int32.not_le.mp c5) (sf_nlt Ba1 sf_k0 (by decide)))
  skip
  refine pm_R_lo pm_M50 (pc_q := 60) rfl rfl rfl ?_
  refine pm_R_lo pm_M50 (pc_q := 61) rfl rfl rfl ?_
  refine pm_R_icmp pm_M50 (t := 73) (pc_q := 64) rfl rfl rfl (fun c6 => ?_) (fun c6 => absurd (Int32.not_le.mp c6) (sf_nlt sf_k468 Ba2 (by decide)))
  skip
  refine pm_R_ret pm_M50 (r := none) rfl rfl ?_
  show pm_R _ 102 7 [.ref 32, .int a1, .int a2, .long a3, pm_no, pm_no] [] _ _
  refine pm_R_lo pm_M102 (pc_q := 8) rfl rfl rfl ?_
  refine pm_R_lo pm_M102 (pc_q := 10) (ls_q := [.ref 32, .int a1, .int a2, .long a3, pm_no, .int a1]) (st_q := []) rfl rfl rfl ?_
  have L_43 : ∀ (N : Nat) (h_43 : pm_H) (m_43 : Nat → Int32) (x5_43 : Int32), cl_T ck E m_43 o h_43 → cl_F ck [32] 0 0 h h_43 → rf_W [] m m_43 → sf_B 0 468 x5_43 → (468 - x5_43.toInt).toNat = N → pm_R (d + 1) 102 10 [.ref 32, .int a1, .int a2, .long a3, pm_no, .int x5_43] [] h_43 Q := by
    intro N
    induction N using Nat.strongRecOn with
    | ind N ih_43 =>
      intro h_43 m_43 x5_43 T_43 F_43 W_43 Bx5_43 hN_43
      have W46 : rf_W [] m m_43 := (rf_W.refl [] m).trans W_43 (by decide)
      refine pm_R_lo pm_M102 (pc_q := 12) rfl rfl rfl ?_
      refine pm_R_lo pm_M102 (pc_q := 13) rfl rfl rfl ?_
      refine pm_R_icmp pm_M102 (t := 27) (pc_q := 16) rfl rfl rfl (fun c47 => ?_) (fun c47 => ?_)
      · skip
        exact pm_R_ret pm_M102 (r := none) rfl rfl (K m_43 h_43 T_43 F_43 W46)
      · have B48 : sf_B 0 467 x5_43 := sf_ltL (Int32.not_le.mp c47) Bx5_43 Ba2
        have B49 : sf_B 1 468 a2 := sf_ltR (Int32.not_le.mp c47) Bx5_43 Ba2
        refine pm_R_lo pm_M102 (pc_q := 17) rfl rfl rfl ?_
        refine pm_R_lo pm_M102 (pc_q := 19) rfl rfl rfl ?_
        refine pm_R_lo pm_M102 (pc_q := 20) rfl rfl rfl ?_
        obtain ⟨f50, e51⟩ := T_43.C 32 (by decide) (by decide)
        refine cl_R_lst G pm_M102 T_43 (pc_q := 21) rfl e51 (by decide) ⟨_, rfl⟩ (sf_in B48 (by decide) (by decide)) rfl (fun h53 T54 F55 e56 => ?_)
        have F57 := F55.cl (ck := ck) T_43.1
        have F58 := F_43.trans (N := 0) (S := 0) F57 (by decide) (by decide) (by decide)
        refine sf_R_iinc pm_M102 (pc_q := 24) (ls_q := fun z => [.ref 32, .int a1, .int a2, .long a3, pm_no, .int z]) rfl B48 rfl (by decide) (by decide) (by decide) (fun _ => rfl) rfl (fun z59 e60 B61 => ?_)
        show pm_R _ 102 24 [.ref 32, .int a1, .int a2, .long a3, pm_no, .int z59] [] _ _
        refine pm_R_br pm_M102 (pc_q := 10) rfl rfl ?_
        exact ih_43 _ (sf_up hN_43 e60 B48 (by decide) (by decide)) h53 m_43 z59 T54 F58 W_43 (sf_weak B61 (by decide) (by decide)) rfl
  exact L_43 _ h m a1 T (cl_F.refl (ck := ck) (A := [32]) (n := 0) (s := 0) T.1) (rf_W.refl _ _) Ba1 rfl

set_option maxRecDepth 100000 in
set_option maxHeartbeats 4000000 in
/-- java/util/Arrays.fill -/
theorem cl_c71_34 {d : Nat} {ck : cl_K} {E : Nat → pm_E} {m : Nat → Int32} {o : Nat → Option Nat} {h : pm_H} {Q : Option Value → pm_H → Prop} {a1 : Int64} (G : cl_G ck E) (T : cl_T ck E m o h)  (K : ∀ (m_q : Nat → Int32) (h_q : pm_H), cl_T ck E m_q o h_q → cl_F ck [34] 0 0 h h_q → rf_W [] m m_q → Q none h_q) : pm_R (d + 0) 71 0 [.ref 34, .long a1, pm_no, pm_no, pm_no] [] h Q := by
  refine pm_R_op pm_M71 (pc_q := 1) (st_q := [.int 0]) rfl rfl rfl ?_
  refine pm_R_lo pm_M71 (pc_q := 2) (ls_q := [.ref 34, .long a1, pm_no, .int 0, pm_no]) (st_q := []) rfl rfl rfl ?_
  refine pm_R_lo pm_M71 (pc_q := 3) rfl rfl rfl ?_
  obtain ⟨f1, e2⟩ := T.C 34 (by decide) (by decide)
  refine pm_R_alen pm_M71 (pc_q := 4) (v := 468) rfl e2 (by decide) (T.lt (by decide)) (by decide) rfl rfl ?_
  refine pm_R_lo pm_M71 (pc_q := 6) (ls_q := [.ref 34, .long a1, pm_no, .int 0, .int 468]) (st_q := []) rfl rfl rfl ?_
  have L_88 : ∀ (N : Nat) (h_88 : pm_H) (m_88 : Nat → Int32) (x3_88 : Int32), cl_T ck E m_88 o h_88 → cl_F ck [34] 0 0 h h_88 → rf_W [] m m_88 → sf_B 0 468 x3_88 → (468 - x3_88.toInt).toNat = N → pm_R (d + 0) 71 6 [.ref 34, .long a1, pm_no, .int x3_88, .int 468] [] h_88 Q := by
    intro N
    induction N using Nat.strongRecOn with
    | ind N ih_88 =>
      intro h_88 m_88 x3_88 T_88 F_88 W_88 Bx3_88 hN_88
      have W91 : rf_W [] m m_88 := (rf_W.refl [] m).trans W_88 (by decide)
      refine pm_R_lo pm_M71 (pc_q := 7) rfl rfl rfl ?_
      refine pm_R_lo pm_M71 (pc_q := 9) rfl rfl rfl ?_
      refine pm_R_icmp pm_M71 (t := 22) (pc_q := 12) rfl rfl rfl (fun c92 => ?_) (fun c92 => ?_)
      · have B93 : sf_B 468 468 x3_88 := sf_leR c92 sf_k468 Bx3_88
        exact pm_R_ret pm_M71 (r := none) rfl rfl (K m_88 h_88 T_88 F_88 W91)
      · have B94 : sf_B 0 467 x3_88 := sf_ltL (Int32.not_le.mp c92) Bx3_88 sf_k468
        refine pm_R_lo pm_M71 (pc_q := 13) rfl rfl rfl ?_
        refine pm_R_lo pm_M71 (pc_q := 14) rfl rfl rfl ?_
        refine pm_R_lo pm_M71 (pc_q := 15) rfl rfl rfl ?_
        obtain ⟨f95, e96⟩ := T_88.C 34 (by decide) (by decide)
        refine cl_R_lst G pm_M71 T_88 (pc_q := 16) rfl e96 (by decide) ⟨_, rfl⟩ (sf_in B94 (by decide) (by decide)) rfl (fun h98 T99 F100 e101 => ?_)
        have F102 := F100.cl (ck := ck) T_88.1
        have F103 := F_88.trans (N := 0) (S := 0) F102 (by decide) (by decide) (by decide)
        refine sf_R_iinc pm_M71 (pc_q := 19) (ls_q := fun z => [.ref 34, .long a1, pm_no, .int z, .int 468]) rfl B94 rfl (by decide) (by decide) (by decide) (fun _ => rfl) rfl (fun z104 e105 B106 => ?_)
        show pm_R _ 71 19 [.ref 34, .long a1, pm_no, .int z104, .int 468] [] _ _
        refine pm_R_br pm_M71 (pc_q := 6) rfl rfl ?_
        exact ih_88 _ (sf_up hN_88 e105 B94 (by decide) (by decide)) h98 m_88 z104 T99 F103 W_88 (sf_weak B106 (by decide) (by decide)) rfl
  exact L_88 _ h m 0 T (cl_F.refl (ck := ck) (A := [34]) (n := 0) (s := 0) T.1) (rf_W.refl _ _) (sf_weak sf_k0 (by decide) (by decide)) rfl
