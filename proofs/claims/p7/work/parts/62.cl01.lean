section
set_option maxRecDepth 100000 in
set_option maxHeartbeats 4000000 in
/-- SilentTable.ways -/
theorem cl_c81_x {d : Nat} {ck : cl_K} {E : Nat → pm_E} {m : Nat → Int32} {o : Nat → Option Nat} {h : pm_H} {Q : Option Value → pm_H → Prop} {a0 : Int32} {a1 : Int32} {a2 : Int32} (G : cl_G ck E) (T : cl_T ck E m o h)  (K : ∀ (r : Int64) (m_q : Nat → Int32) (o_q : Nat → Option Nat) (h_q : pm_H), cl_T ck E m_q o_q h_q → cl_F ck [16, 33, 34] 2 23403 h h_q → rf_W [] m m_q → cl_p0 (o_q 0) + h_q.2.1 ≤ cl_p0 (o 0) + h.2.1 → Q (some (.long r)) h_q) (K2 : ∀ (r : Int64) (m_q : Nat → Int32) (o_q : Nat → Option Nat) (ck_q : cl_K) (h_q : pm_H), (∀ b, b < h.1 → ck_q b = ck b) → cl_G ck_q E → cl_T ck_q E m_q o_q h_q → cl_F ck [16, 33, 34] 2 23403 h h_q → rf_W [] m m_q → cl_p0 (o_q 0) + h_q.2.1 ≤ cl_p0 (o 0) + h.2.1 → Q (some (.long r)) h_q) : pm_R (d + 4) 81 0 [.ref 16, .int a0, .int a1, .int a2, pm_no, pm_no] [] h Q := by
  refine pm_R_lo pm_M81 (pc_q := 1) rfl rfl rfl ?_
  refine pm_R_lo pm_M81 (pc_q := 2) rfl rfl rfl ?_
  refine pm_R_cv pm_M81 (pc_q := 5) (a := 16) (ra := [.int a0]) (rest := []) (ls_q := [.ref 16, .int a0]) rfl rfl (Or.inl rfl) pm_M62 T.e16 rfl (by decide) (T.lt (by decide)) rfl rfl (Nat.le_of_ble_eq_true rfl) rfl rfl ?_
  refine pm_R_lo pm_M62 (pc_q := 1) rfl rfl rfl ?_
  refine pm_R_ifc pm_M62 (t := 17) (pc_q := 4) rfl rfl rfl (fun c1 => ?_) (fun c1 => ?_)
  · have B2 : sf_B (-2147483648) (-1) a0 := sf_ltL c1 (sf_any a0) sf_k0
    refine pm_R_op pm_M62 (pc_q := 18) (st_q := [.null]) rfl rfl rfl ?_
    refine pm_R_br pm_M62 (pc_q := 30) rfl rfl ?_
    refine pm_R_ret pm_M62 (r := some (.null)) rfl rfl ?_
    show pm_R _ 81 5 [.ref 16, .int a0, .int a1, .int a2, pm_no, pm_no] [.null] _ _
    refine pm_R_lo pm_M81 (pc_q := 7) (ls_q := [.ref 16, .int a0, .int a1, .int a2, .null, pm_no]) (st_q := []) rfl rfl rfl ?_
    refine pm_R_lo pm_M81 (pc_q := 8) rfl rfl rfl ?_
    refine pm_R_lo pm_M81 (pc_q := 9) rfl rfl rfl ?_
    refine pm_R_cv pm_M81 (pc_q := 12) (a := 16) (ra := [.int a1]) (rest := []) (ls_q := [.ref 16, .int a1]) rfl rfl (Or.inl rfl) pm_M66 T.e16 rfl (by decide) (T.lt (by decide)) rfl rfl (Nat.le_of_ble_eq_true rfl) rfl rfl ?_
    refine pm_R_lo pm_M66 (pc_q := 1) rfl rfl rfl ?_
    refine pm_R_ifc pm_M66 (t := 17) (pc_q := 4) rfl rfl rfl (fun c3 => ?_) (fun c3 => ?_)
    · have B4 : sf_B (-2147483648) (-1) a1 := sf_ltL c3 (sf_any a1) sf_k0
      refine pm_R_op pm_M66 (pc_q := 18) (st_q := [.null]) rfl rfl rfl ?_
      refine pm_R_br pm_M66 (pc_q := 30) rfl rfl ?_
      refine pm_R_ret pm_M66 (r := some (.null)) rfl rfl ?_
      show pm_R _ 81 12 [.ref 16, .int a0, .int a1, .int a2, .null, pm_no] [.null] _ _
      refine pm_R_lo pm_M81 (pc_q := 14) (ls_q := [.ref 16, .int a0, .int a1, .int a2, .null, .null]) (st_q := []) rfl rfl rfl ?_
      refine pm_R_lo pm_M81 (pc_q := 16) rfl rfl rfl ?_
      refine pm_R_br pm_M81 (pc_q := 31) rfl rfl ?_
      refine pm_R_ldc2 pm_M81 (pc_q := 34) rfl rfl rfl ?_
      exact pm_R_ret pm_M81 (r := some (.long (-1))) rfl rfl (K (-1) m o h T ((cl_F.refl (ck := ck) (A := [16, 33, 34]) (n := 0) (s := 0) T.1).weak (by decide) (by decide)) (rf_W.refl [] m) (Nat.add_le_add_left ((cl_F.refl (ck := ck) (A := [16, 33, 34]) (n := 0) (s := 0) T.1).2.2.2.1) _))
    · have B5 : sf_B 0 2147483647 a1 := sf_leR (Int32.not_lt.mp c3) sf_k0 (sf_any a1)
      refine pm_R_lo pm_M66 (pc_q := 5) rfl rfl rfl ?_
      refine pm_R_lo pm_M66 (pc_q := 6) rfl rfl rfl ?_
      refine pm_R_get pm_M66 (pc_q := 9) (v := .ref 17) rfl rfl T.e16 (by decide) (T.lt (by decide)) rfl rfl ?_
      refine pm_R_get pm_M66 (pc_q := 12) (v := .ref 23) rfl rfl T.e17 (by decide) (T.lt (by decide)) rfl rfl ?_
      refine pm_R_op pm_M66 (pc_q := 13) (st_q := [.int 1, .ref 23, .int a1]) rfl rfl rfl ?_
      obtain ⟨f9, e10, b11⟩ := T.C 23 (by decide) (by decide)
      obtain ⟨z6, ez7⟩ : ∃ y, f9 (Int32.toNatClampNeg 1) = y := ⟨_, rfl⟩
      have B8 : sf_B 0 3 z6 := ez7 ▸ (b11 1)
      refine pm_R_iald pm_M66 (pc_q := 14) (v := z6) rfl e10 (T.lt (by decide)) rfl ez7 rfl ?_
      refine pm_R_icmp pm_M66 (t := 21) (pc_q := 17) rfl rfl rfl (fun c12 => ?_) (fun c12 => ?_)
      · have B13 : sf_B 0 2 a1 := sf_ltL c12 B5 B8
        have B14 : sf_B 1 3 z6 := sf_ltR c12 B5 B8
        refine pm_R_lo pm_M66 (pc_q := 22) rfl rfl rfl ?_
        refine pm_R_get pm_M66 (pc_q := 25) (v := .ref 17) rfl rfl T.e16 (by decide) (T.lt (by decide)) rfl rfl ?_
        refine pm_R_get pm_M66 (pc_q := 28) (v := .ref 20) rfl rfl T.e17 (by decide) (T.lt (by decide)) rfl rfl ?_
        refine pm_R_lo pm_M66 (pc_q := 29) rfl rfl rfl ?_
        obtain ⟨f15, e16, b17⟩ := T.C 20 (by decide) (by decide)
        obtain ⟨l18, hx19⟩ := cl_there1 T e10 e16 ez7 c12 B13 (by decide)
        have hk20 := b17 _ _ hx19
        refine pm_R_aald pm_M66 (pc_q := 30) (v := .ref l18) rfl e16 (by decide) (by decide) (by decide) (T.lt (by decide)) (sf_in B13 (by decide) (by decide)) (by rw [hx19]; rfl) rfl ?_
        refine pm_R_ret pm_M66 (r := some (.ref l18)) rfl rfl ?_
        show pm_R _ 81 12 [.ref 16, .int a0, .int a1, .int a2, .null, pm_no] [.ref l18] _ _
        refine pm_R_lo pm_M81 (pc_q := 14) (ls_q := [.ref 16, .int a0, .int a1, .int a2, .null, .ref l18]) (st_q := []) rfl rfl rfl ?_
        refine pm_R_lo pm_M81 (pc_q := 16) rfl rfl rfl ?_
        refine pm_R_br pm_M81 (pc_q := 31) rfl rfl ?_
        refine pm_R_ldc2 pm_M81 (pc_q := 34) rfl rfl rfl ?_
        exact pm_R_ret pm_M81 (r := some (.long (-1))) rfl rfl (K (-1) m o h T ((cl_F.refl (ck := ck) (A := [16, 33, 34]) (n := 0) (s := 0) T.1).weak (by decide) (by decide)) (rf_W.refl [] m) (Nat.add_le_add_left ((cl_F.refl (ck := ck) (A := [16, 33, 34]) (n := 0) (s := 0) T.1).2.2.2.1) _))
      · skip
        refine pm_R_op pm_M66 (pc_q := 18) (st_q := [.null]) rfl rfl rfl ?_
        refine pm_R_br pm_M66 (pc_q := 30) rfl rfl ?_
        refine pm_R_ret pm_M66 (r := some (.null)) rfl rfl ?_
        show pm_R _ 81 12 [.ref 16, .int a0, .int a1, .int a2, .null, pm_no] [.null] _ _
        refine pm_R_lo pm_M81 (pc_q := 14) (ls_q := [.ref 16, .int a0, .int a1, .int a2, .null, .null]) (st_q := []) rfl rfl rfl ?_
        refine pm_R_lo pm_M81 (pc_q := 16) rfl rfl rfl ?_
        refine pm_R_br pm_M81 (pc_q := 31) rfl rfl ?_
        refine pm_R_ldc2 pm_M81 (pc_q := 34) rfl rfl rfl ?_
        exact pm_R_ret pm_M81 (r := some (.long (-1))) rfl rfl (K (-1) m o h T ((cl_F.refl (ck := ck) (A := [16, 33, 34]) (n := 0) (s := 0) T.1).weak (by decide) (by decide)) (rf_W.refl [] m) (Nat.add_le_add_left ((cl_F.refl (ck := ck) (A := [16, 33, 34]) (n := 0) (s := 0) T.1).2.2.2.1) _))
  · have B21 : sf_B 0 2147483647 a0 := sf_leR (Int32.not_lt.mp c1) sf_k0 (sf_any a0)
    refine pm_R_lo pm_M62 (pc_q := 5) rfl rfl rfl ?_
    refine pm_R_lo pm_M62 (pc_q := 6) rfl rfl rfl ?_
    refine pm_R_get pm_M62 (pc_q := 9) (v := .ref 17) rfl rfl T.e16 (by decide) (T.lt (by decide)) rfl rfl ?_
    refine pm_R_get pm_M62 (pc_q := 12) (v := .ref 23) rfl rfl T.e17 (by decide) (T.lt (by decide)) rfl rfl ?_
    refine pm_R_op pm_M62 (pc_q := 13) (st_q := [.int 0, .ref 23, .int a0]) rfl rfl rfl ?_
    obtain ⟨f25, e26, b27⟩ := T.C 23 (by decide) (by decide)
    obtain ⟨z22, ez23⟩ : ∃ y, f25 (Int32.toNatClampNeg 0) = y := ⟨_, rfl⟩
    have B24 : sf_B 0 2 z22 := ez23 ▸ (b27 0)
    refine pm_R_iald pm_M62 (pc_q := 14) (v := z22) rfl e26 (T.lt (by decide)) rfl ez23 rfl ?_
    refine pm_R_icmp pm_M62 (t := 21) (pc_q := 17) rfl rfl rfl (fun c28 => ?_) (fun c28 => ?_)
    · have B29 : sf_B 0 1 a0 := sf_ltL c28 B21 B24
      have B30 : sf_B 1 2 z22 := sf_ltR c28 B21 B24
      refine pm_R_lo pm_M62 (pc_q := 22) rfl rfl rfl ?_
      refine pm_R_get pm_M62 (pc_q := 25) (v := .ref 17) rfl rfl T.e16 (by decide) (T.lt (by decide)) rfl rfl ?_
      refine pm_R_get pm_M62 (pc_q := 28) (v := .ref 19) rfl rfl T.e17 (by decide) (T.lt (by decide)) rfl rfl ?_
      refine pm_R_lo pm_M62 (pc_q := 29) rfl rfl rfl ?_
      obtain ⟨f31, e32, b33⟩ := T.C 19 (by decide) (by decide)
      obtain ⟨l34, hx35⟩ := cl_there0 T e26 e32 ez23 c28 B29 (by decide)
      have hk36 := b33 _ _ hx35
      refine pm_R_aald pm_M62 (pc_q := 30) (v := .ref l34) rfl e32 (by decide) (by decide) (by decide) (T.lt (by decide)) (sf_in B29 (by decide) (by decide)) (by rw [hx35]; rfl) rfl ?_
      refine pm_R_ret pm_M62 (r := some (.ref l34)) rfl rfl ?_
      show pm_R _ 81 5 [.ref 16, .int a0, .int a1, .int a2, pm_no, pm_no] [.ref l34] _ _
      refine pm_R_lo pm_M81 (pc_q := 7) (ls_q := [.ref 16, .int a0, .int a1, .int a2, .ref l34, pm_no]) (st_q := []) rfl rfl rfl ?_
      refine pm_R_lo pm_M81 (pc_q := 8) rfl rfl rfl ?_
      refine pm_R_lo pm_M81 (pc_q := 9) rfl rfl rfl ?_
      refine pm_R_cv pm_M81 (pc_q := 12) (a := 16) (ra := [.int a1]) (rest := []) (ls_q := [.ref 16, .int a1]) rfl rfl (Or.inl rfl) pm_M66 T.e16 rfl (by decide) (T.lt (by decide)) rfl rfl (Nat.le_of_ble_eq_true rfl) rfl rfl ?_
      refine pm_R_lo pm_M66 (pc_q := 1) rfl rfl rfl ?_
      refine pm_R_ifc pm_M66 (t := 17) (pc_q := 4) rfl rfl rfl (fun c37 => ?_) (fun c37 => ?_)
      · have B38 : sf_B (-2147483648) (-1) a1 := sf_ltL c37 (sf_any a1) sf_k0
        refine pm_R_op pm_M66 (pc_q := 18) (st_q := [.null]) rfl rfl rfl ?_
        refine pm_R_br pm_M66 (pc_q := 30) rfl rfl ?_
        refine pm_R_ret pm_M66 (r := some (.null)) rfl rfl ?_
        show pm_R _ 81 12 [.ref 16, .int a0, .int a1, .int a2, .ref l34, pm_no] [.null] _ _
        refine pm_R_lo pm_M81 (pc_q := 14) (ls_q := [.ref 16, .int a0, .int a1, .int a2, .ref l34, .null]) (st_q := []) rfl rfl rfl ?_
        refine pm_R_lo pm_M81 (pc_q := 16) rfl rfl rfl ?_
        refine pm_R_br pm_M81 (pc_q := 19) rfl rfl ?_
        refine pm_R_lo pm_M81 (pc_q := 21) rfl rfl rfl ?_
        refine pm_R_br pm_M81 (pc_q := 31) rfl rfl ?_
        refine pm_R_ldc2 pm_M81 (pc_q := 34) rfl rfl rfl ?_
        exact pm_R_ret pm_M81 (r := some (.long (-1))) rfl rfl (K (-1) m o h T ((cl_F.refl (ck := ck) (A := [16, 33, 34]) (n := 0) (s := 0) T.1).weak (by decide) (by decide)) (rf_W.refl [] m) (Nat.add_le_add_left ((cl_F.refl (ck := ck) (A := [16, 33, 34]) (n := 0) (s := 0) T.1).2.2.2.1) _))
      · have B39 : sf_B 0 2147483647 a1 := sf_leR (Int32.not_lt.mp c37) sf_k0 (sf_any a1)
        refine pm_R_lo pm_M66 (pc_q := 5) rfl rfl rfl ?_
        refine pm_R_lo pm_M66 (pc_q := 6) rfl rfl rfl ?_
        refine pm_R_get pm_M66 (pc_q := 9) (v := .ref 17) rfl rfl T.e16 (by decide) (T.lt (by decide)) rfl rfl ?_
        refine pm_R_get pm_M66 (pc_q := 12) (v := .ref 23) rfl rfl T.e17 (by decide) (T.lt (by decide)) rfl rfl ?_
        refine pm_R_op pm_M66 (pc_q := 13) (st_q := [.int 1, .ref 23, .int a1]) rfl rfl rfl ?_
        obtain ⟨z40, ez41⟩ : ∃ y, f25 (Int32.toNatClampNeg 1) = y := ⟨_, rfl⟩
        have B42 : sf_B 0 3 z40 := ez41 ▸ (b27 1)
        refine pm_R_iald pm_M66 (pc_q := 14) (v := z40) rfl e26 (T.lt (by decide)) rfl ez41 rfl ?_
        refine pm_R_icmp pm_M66 (t := 21) (pc_q := 17) rfl rfl rfl (fun c43 => ?_) (fun c43 => ?_)
        · have B44 : sf_B 0 2 a1 := sf_ltL c43 B39 B42
          have B45 : sf_B 1 3 z40 := sf_ltR c43 B39 B42
          refine pm_R_lo pm_M66 (pc_q := 22) rfl rfl rfl ?_
          refine pm_R_get pm_M66 (pc_q := 25) (v := .ref 17) rfl rfl T.e16 (by decide) (T.lt (by decide)) rfl rfl ?_
          refine pm_R_get pm_M66 (pc_q := 28) (v := .ref 20) rfl rfl T.e17 (by decide) (T.lt (by decide)) rfl rfl ?_
          refine pm_R_lo pm_M66 (pc_q := 29) rfl rfl rfl ?_
          obtain ⟨f46, e47, b48⟩ := T.C 20 (by decide) (by decide)
          obtain ⟨l49, hx50⟩ := cl_there1 T e26 e47 ez41 c43 B44 (by decide)
          have hk51 := b48 _ _ hx50
          refine pm_R_aald pm_M66 (pc_q := 30) (v := .ref l49) rfl e47 (by decide) (by decide) (by decide) (T.lt (by decide)) (sf_in B44 (by decide) (by decide)) (by rw [hx50]; rfl) rfl ?_
          refine pm_R_ret pm_M66 (r := some (.ref l49)) rfl rfl ?_
          show pm_R _ 81 12 [.ref 16, .int a0, .int a1, .int a2, .ref l34, pm_no] [.ref l49] _ _
          refine pm_R_lo pm_M81 (pc_q := 14) (ls_q := [.ref 16, .int a0, .int a1, .int a2, .ref l34, .ref l49]) (st_q := []) rfl rfl rfl ?_
          refine pm_R_lo pm_M81 (pc_q := 16) rfl rfl rfl ?_
          refine pm_R_br pm_M81 (pc_q := 19) rfl rfl ?_
          refine pm_R_lo pm_M81 (pc_q := 21) rfl rfl rfl ?_
          refine pm_R_br pm_M81 (pc_q := 24) rfl rfl ?_
          refine pm_R_lo pm_M81 (pc_q := 25) rfl rfl rfl ?_
          refine pm_R_cs pm_M81 (pc_q := 28) (ra := [.int a2]) (rest := []) (ls_q := [.int a2]) rfl rfl (Or.inl rfl) pm_M82 rfl rfl (Nat.le_of_ble_eq_true rfl) rfl rfl ?_
          refine pm_R_lo pm_M82 (pc_q := 1) rfl rfl rfl ?_
          refine pm_R_ifc pm_M82 (t := 14) (pc_q := 4) rfl rfl rfl (fun c52 => ?_) (fun c52 => ?_)
          · have B53 : sf_B (-2147483648) (-1) a2 := sf_ltL c52 (sf_any a2) sf_k0
            refine pm_R_op pm_M82 (pc_q := 15) (st_q := [.int 0]) rfl rfl rfl ?_
            refine pm_R_ret pm_M82 (r := some (.int 0)) rfl rfl ?_
            show pm_R _ 81 28 [.ref 16, .int a0, .int a1, .int a2, .ref l34, .ref l49] [.int 0] _ _
            refine pm_R_br pm_M81 (pc_q := 31) (st_q := []) rfl rfl ?_
            refine pm_R_ldc2 pm_M81 (pc_q := 34) rfl rfl rfl ?_
            exact pm_R_ret pm_M81 (r := some (.long (-1))) rfl rfl (K (-1) m o h T ((cl_F.refl (ck := ck) (A := [16, 33, 34]) (n := 0) (s := 0) T.1).weak (by decide) (by decide)) (rf_W.refl [] m) (Nat.add_le_add_left ((cl_F.refl (ck := ck) (A := [16, 33, 34]) (n := 0) (s := 0) T.1).2.2.2.1) _))
          · have B54 : sf_B 0 2147483647 a2 := sf_leR (Int32.not_lt.mp c52) sf_k0 (sf_any a2)
            refine pm_R_lo pm_M82 (pc_q := 5) rfl rfl rfl ?_
            refine pm_R_op pm_M82 (pc_q := 7) (st_q := [.int 50, .int a2]) rfl rfl rfl ?_
            refine pm_R_icmp pm_M82 (t := 14) (pc_q := 10) rfl rfl rfl (fun c55 => ?_) (fun c55 => ?_)
            · have B56 : sf_B 50 2147483647 a2 := sf_leR c55 sf_k50 B54
              refine pm_R_op pm_M82 (pc_q := 15) (st_q := [.int 0]) rfl rfl rfl ?_
              refine pm_R_ret pm_M82 (r := some (.int 0)) rfl rfl ?_
              show pm_R _ 81 28 [.ref 16, .int a0, .int a1, .int a2, .ref l34, .ref l49] [.int 0] _ _
              refine pm_R_br pm_M81 (pc_q := 31) (st_q := []) rfl rfl ?_
              refine pm_R_ldc2 pm_M81 (pc_q := 34) rfl rfl rfl ?_
              exact pm_R_ret pm_M81 (r := some (.long (-1))) rfl rfl (K (-1) m o h T ((cl_F.refl (ck := ck) (A := [16, 33, 34]) (n := 0) (s := 0) T.1).weak (by decide) (by decide)) (rf_W.refl [] m) (Nat.add_le_add_left ((cl_F.refl (ck := ck) (A := [16, 33, 34]) (n := 0) (s := 0) T.1).2.2.2.1) _))
            · have B57 : sf_B 0 49 a2 := sf_ltL (Int32.not_le.mp c55) B54 sf_k50
              refine pm_R_op pm_M82 (pc_q := 11) (st_q := [.int 1]) rfl rfl rfl ?_
              refine pm_R_br pm_M82 (pc_q := 15) rfl rfl ?_
              refine pm_R_ret pm_M82 (r := some (.int 1)) rfl rfl ?_
              show pm_R _ 81 28 [.ref 16, .int a0, .int a1, .int a2, .ref l34, .ref l49] [.int 1] _ _
              refine pm_R_br pm_M81 (pc_q := 35) (st_q := []) rfl rfl ?_
              refine pm_R_lo pm_M81 (pc_q := 36) rfl rfl rfl ?_
              refine pm_R_get pm_M81 (pc_q := 39) (v := .ref 33) rfl rfl T.e16 (by decide) (T.lt (by decide)) rfl rfl ?_
              refine pm_R_lo pm_M81 (pc_q := 41) rfl rfl rfl ?_
              refine pm_R_lo pm_M81 (pc_q := 43) rfl rfl rfl ?_
              refine pm_R_cv pm_M81 (pc_q := 46) (a := 33) (ra := [.ref l49, .ref l34]) (rest := []) (ls_q := [.ref 33, .ref l34, .ref l49, pm_no, pm_no]) rfl rfl (Or.inl rfl) pm_M70 T.e33 rfl (by decide) (T.lt (by decide)) rfl rfl (Nat.le_of_ble_eq_true rfl) rfl rfl ?_
              refine cl_c70 (d := d + 0) G T hk36 hk51 (fun m60 o65 h61 T62 F63 W64 X66 X67 => ?_)
              have F68 := (cl_F.refl (ck := ck) (A := [16, 33, 34]) (n := 0) (s := 0) T.1).trans (N := 0) (S := 0) F63 (by decide) (by decide) (by decide)
              have W69 : rf_W [] m m60 := (rf_W.refl [] m).trans W64 (by decide)
              show pm_R _ 81 46 [.ref 16, .int a0, .int a1, .int a2, .ref l34, .ref l49] [] _ _
              have z70 := cl_o0 (F63.cell G (by decide) (by decide) T.e16) T62.e16
              exact cl_c81_m (d := d + 0) G T62 B57 X66 X67 (fun r m9 o9 ck9 h9 q1 q2 q3 q4 q5 q6 q7 q8 q9 => K2 r m9 o9 ck9 h9 (fun b hb => q1 b (Nat.lt_of_lt_of_le hb F68.2.1)) q2 q3 (F68.trans q8 (by decide) (by decide) (by decide)) (W69.trans q9 (by decide)) (cl_p0x q6 q7 q8.2.2.2.1 z70 F68.2.2.2.1))
        · skip
          refine pm_R_op pm_M66 (pc_q := 18) (st_q := [.null]) rfl rfl rfl ?_
          refine pm_R_br pm_M66 (pc_q := 30) rfl rfl ?_
          refine pm_R_ret pm_M66 (r := some (.null)) rfl rfl ?_
          show pm_R _ 81 12 [.ref 16, .int a0, .int a1, .int a2, .ref l34, pm_no] [.null] _ _
          refine pm_R_lo pm_M81 (pc_q := 14) (ls_q := [.ref 16, .int a0, .int a1, .int a2, .ref l34, .null]) (st_q := []) rfl rfl rfl ?_
          refine pm_R_lo pm_M81 (pc_q := 16) rfl rfl rfl ?_
          refine pm_R_br pm_M81 (pc_q := 19) rfl rfl ?_
          refine pm_R_lo pm_M81 (pc_q := 21) rfl rfl rfl ?_
          refine pm_R_br pm_M81 (pc_q := 31) rfl rfl ?_
          refine pm_R_ldc2 pm_M81 (pc_q := 34) rfl rfl rfl ?_
          exact pm_R_ret pm_M81 (r := some (.long (-1))) rfl rfl (K (-1) m o h T ((cl_F.refl (ck := ck) (A := [16, 33, 34]) (n := 0) (s := 0) T.1).weak (by decide) (by decide)) (rf_W.refl [] m) (Nat.add_le_add_left ((cl_F.refl (ck := ck) (A := [16, 33, 34]) (n := 0) (s := 0) T.1).2.2.2.1) _))
    · skip
      refine pm_R_op pm_M62 (pc_q := 18) (st_q := [.null]) rfl rfl rfl ?_
      refine pm_R_br pm_M62 (pc_q := 30) rfl rfl ?_
      refine pm_R_ret pm_M62 (r := some (.null)) rfl rfl ?_
      show pm_R _ 81 5 [.ref 16, .int a0, .int a1, .int a2, pm_no, pm_no] [.null] _ _
      refine pm_R_lo pm_M81 (pc_q := 7) (ls_q := [.ref 16, .int a0, .int a1, .int a2, .null, pm_no]) (st_q := []) rfl rfl rfl ?_
      refine pm_R_lo pm_M81 (pc_q := 8) rfl rfl rfl ?_
      refine pm_R_lo pm_M81 (pc_q := 9) rfl rfl rfl ?_
      refine pm_R_cv pm_M81 (pc_q := 12) (a := 16) (ra := [.int a1]) (rest := []) (ls_q := [.ref 16, .int a1]) rfl rfl (Or.inl rfl) pm_M66 T.e16 rfl (by decide) (T.lt (by decide)) rfl rfl (Nat.le_of_ble_eq_true rfl) rfl rfl ?_
      refine pm_R_lo pm_M66 (pc_q := 1) rfl rfl rfl ?_
      refine pm_R_ifc pm_M66 (t := 17) (pc_q := 4) rfl rfl rfl (fun c71 => ?_) (fun c71 => ?_)
      · have B72 : sf_B (-2147483648) (-1) a1 := sf_ltL c71 (sf_any a1) sf_k0
        refine pm_R_op pm_M66 (pc_q := 18) (st_q := [.null]) rfl rfl rfl ?_
        refine pm_R_br pm_M66 (pc_q := 30) rfl rfl ?_
        refine pm_R_ret pm_M66 (r := some (.null)) rfl rfl ?_
        show pm_R _ 81 12 [.ref 16, .int a0, .int a1, .int a2, .null, pm_no] [.null] _ _
        refine pm_R_lo pm_M81 (pc_q := 14) (ls_q := [.ref 16, .int a0, .int a1, .int a2, .null, .null]) (st_q := []) rfl rfl rfl ?_
        refine pm_R_lo pm_M81 (pc_q := 16) rfl rfl rfl ?_
        refine pm_R_br pm_M81 (pc_q := 31) rfl rfl ?_
        refine pm_R_ldc2 pm_M81 (pc_q := 34) rfl rfl rfl ?_
        exact pm_R_ret pm_M81 (r := some (.long (-1))) rfl rfl (K (-1) m o h T ((cl_F.refl (ck := ck) (A := [16, 33, 34]) (n := 0) (s := 0) T.1).weak (by decide) (by decide)) (rf_W.refl [] m) (Nat.add_le_add_left ((cl_F.refl (ck := ck) (A := [16, 33, 34]) (n := 0) (s := 0) T.1).2.2.2.1) _))
      · have B73 : sf_B 0 2147483647 a1 := sf_leR (Int32.not_lt.mp c71) sf_k0 (sf_any a1)
        refine pm_R_lo pm_M66 (pc_q := 5) rfl rfl rfl ?_
        refine pm_R_lo pm_M66 (pc_q := 6) rfl rfl rfl ?_
        refine pm_R_get pm_M66 (pc_q := 9) (v := .ref 17) rfl rfl T.e16 (by decide) (T.lt (by decide)) rfl rfl ?_
        refine pm_R_get pm_M66 (pc_q := 12) (v := .ref 23) rfl rfl T.e17 (by decide) (T.lt (by decide)) rfl rfl ?_
        refine pm_R_op pm_M66 (pc_q := 13) (st_q := [.int 1, .ref 23, .int a1]) rfl rfl rfl ?_
        obtain ⟨z74, ez75⟩ : ∃ y, f25 (Int32.toNatClampNeg 1) = y := ⟨_, rfl⟩
        have B76 : sf_B 0 3 z74 := ez75 ▸ (b27 1)
        refine pm_R_iald pm_M66 (pc_q := 14) (v := z74) rfl e26 (T.lt (by decide)) rfl ez75 rfl ?_
        refine pm_R_icmp pm_M66 (t := 21) (pc_q := 17) rfl rfl rfl (fun c77 => ?_) (fun c77 => ?_)
        · have B78 : sf_B 0 2 a1 := sf_ltL c77 B73 B76
          have B79 : sf_B 1 3 z74 := sf_ltR c77 B73 B76
          refine pm_R_lo pm_M66 (pc_q := 22) rfl rfl rfl ?_
          refine pm_R_get pm_M66 (pc_q := 25) (v := .ref 17) rfl rfl T.e16 (by decide) (T.lt (by decide)) rfl rfl ?_
          refine pm_R_get pm_M66 (pc_q := 28) (v := .ref 20) rfl rfl T.e17 (by decide) (T.lt (by decide)) rfl rfl ?_
          refine pm_R_lo pm_M66 (pc_q := 29) rfl rfl rfl ?_
          obtain ⟨f80, e81, b82⟩ := T.C 20 (by decide) (by decide)
          obtain ⟨l83, hx84⟩ := cl_there1 T e26 e81 ez75 c77 B78 (by decide)
          have hk85 := b82 _ _ hx84
          refine pm_R_aald pm_M66 (pc_q := 30) (v := .ref l83) rfl e81 (by decide) (by decide) (by decide) (T.lt (by decide)) (sf_in B78 (by decide) (by decide)) (by rw [hx84]; rfl) rfl ?_
          refine pm_R_ret pm_M66 (r := some (.ref l83)) rfl rfl ?_
          show pm_R _ 81 12 [.ref 16, .int a0, .int a1, .int a2, .null, pm_no] [.ref l83] _ _
          refine pm_R_lo pm_M81 (pc_q := 14) (ls_q := [.ref 16, .int a0, .int a1, .int a2, .null, .ref l83]) (st_q := []) rfl rfl rfl ?_
          refine pm_R_lo pm_M81 (pc_q := 16) rfl rfl rfl ?_
          refine pm_R_br pm_M81 (pc_q := 31) rfl rfl ?_
          refine pm_R_ldc2 pm_M81 (pc_q := 34) rfl rfl rfl ?_
          exact pm_R_ret pm_M81 (r := some (.long (-1))) rfl rfl (K (-1) m o h T ((cl_F.refl (ck := ck) (A := [16, 33, 34]) (n := 0) (s := 0) T.1).weak (by decide) (by decide)) (rf_W.refl [] m) (Nat.add_le_add_left ((cl_F.refl (ck := ck) (A := [16, 33, 34]) (n := 0) (s := 0) T.1).2.2.2.1) _))
        · skip
          refine pm_R_op pm_M66 (pc_q := 18) (st_q := [.null]) rfl rfl rfl ?_
          refine pm_R_br pm_M66 (pc_q := 30) rfl rfl ?_
          refine pm_R_ret pm_M66 (r := some (.null)) rfl rfl ?_
          show pm_R _ 81 12 [.ref 16, .int a0, .int a1, .int a2, .null, pm_no] [.null] _ _
          refine pm_R_lo pm_M81 (pc_q := 14) (ls_q := [.ref 16, .int a0, .int a1, .int a2, .null, .null]) (st_q := []) rfl rfl rfl ?_
          refine pm_R_lo pm_M81 (pc_q := 16) rfl rfl rfl ?_
          refine pm_R_br pm_M81 (pc_q := 31) rfl rfl ?_
          refine pm_R_ldc2 pm_M81 (pc_q := 34) rfl rfl rfl ?_
          exact pm_R_ret pm_M81 (r := some (.long (-1))) rfl rfl (K (-1) m o h T ((cl_F.refl (ck := ck) (A := [16, 33, 34]) (n := 0) (s := 0) T.1).weak (by decide) (by decide)) (rf_W.refl [] m) (Nat.add_le_add_left ((cl_F.refl (ck := ck) (A := [16, 33, 34]) (n := 0) (s := 0) T.1).2.2.2.1) _))
end
section
section
/-! the law: what holds behind every call -/
variable {ck ck1 : cl_K} {E E1 : Nat → pm_E} {m m1 mr : Nat → Int32} {o o1 : Nat → Option Nat} {wr : Int64} {h h1 h2 : pm_H} {L j : Nat} {xs : Nat → Int32}
def p2_O (t : Nat) (v x y : Int32) : pm_E := .inr (8, [.ref (t + 1), .int v, .int x, .int y, .ref (t + 2), .ref (t + 3), .ref (t + 4), .ref (t + 5), .ref (t + 6)])
/-- how much was told, here and there; images -/
def p2_S (m : Nat → Int32) (h : pm_H) : Prop := ∃ (g q : Nat → Int32) (f : Nat → Option Nat), h.2.2 43 = .inl (0, 4, .inl g) ∧ h.2.2 71 = .inl (3, 3, .inl q) ∧ h.2.2 24 = .inl (8, 3, .inr (.inr (.inr (.inr f)))) ∧ (m 0).toInt = (g 0).toInt ∧ (∀ i, i < 3 → (f i = none ↔ q i = 0)) ∧ (∀ i t, i < 3 → f i = some t → ∃ v x y, h.2.2 t = p2_O t v x y ∧ v.toInt = (g (i + 1)).toInt) ∧ (∀ i k t, i < 3 → k < 3 → f i = some t → f k = some t → i = k)
/-- room: what is made, and what charts may still need -/
def p2_R (o : Nat → Option Nat) (h : pm_H) (B : Nat) : Prop := ∃ f : Nat → Option Nat, h.2.2 37 = .inl (9, 2, .inr (.inr (.inr (.inr f)))) ∧ cl_p37 f + cl_p0 (o 0) + h.2.1 ≤ B
def p2_I (L : Nat) (xs : Nat → Int32) (j : Nat) (h : pm_H) : Prop := ∃ (ck : cl_K) (E : Nat → pm_E) (m : Nat → Int32) (o : Nat → Option Nat) (mr : Nat → Int32) (wr : Int64), cl_G ck E ∧ cl_T ck E m o h ∧ rf_T mr wr h ∧ cl_Y h ∧ E 0 = .inl (0, L, .inl xs) ∧ p2_S m h ∧ p2_R o h (124992 + 1000 * j) ∧ h.1 ≤ 72 + 20 * j
theorem rf_T.keepF (Tr : rf_T mr wr h) (h72 : 72 ≤ h1.1) (hk : ∀ a, 41 ≤ a → a < 72 → h1.2.2 a = h.2.2 a) : rf_T mr wr h1 :=
  ⟨h72, by rw [hk 41 (by decide) (by decide)]; exact Tr.2.1, Tr.2.2.1, fun a a1 a2 => by rw [hk a (by omega) a2]; exact Tr.2.2.2.1 a a1 a2, by rw [hk 46 (by decide) (by decide), hk 48 (by decide) (by decide)]; exact Tr.2.2.2.2⟩
theorem cl_T.keepR (G : cl_G ck E) (T : cl_T ck E m o h) (h1e : h1.1 = h.1) (hk : ∀ a, (a < 41 ∨ 71 < a) → h1.2.2 a = h.2.2 a) : cl_T ck E m o h1 := by
  obtain ⟨t1, t2, t3, t4, t5, t6, t7, t8, t9, t10, t11, t12, t13, t14, t15⟩ := T
  refine ⟨by omega, by rw [hk 16 (by omega)]; exact t2, by rw [hk 17 (by omega)]; exact t3, by rw [hk 25 (by omega)]; exact t4, by rw [hk 30 (by omega)]; exact t5, by rw [hk 31 (by omega)]; exact t6, by rw [hk 33 (by omega)]; exact t7, t8, fun a a1 a2 => by rw [hk a (by omega)]; exact t9 a a1 a2, ?_, fun a ha => by rw [h1e]; exact t11 a ha, fun a a1 a2 => ?_, cl_D.low G t13 (fun b hb => hk b (by omega)), t14, fun a ha => by rw [hk a (by omega)]; exact t15 a ha⟩
  · rw [hk 19 (by omega), hk 20 (by omega), hk 21 (by omega), hk 22 (by omega), hk 23 (by omega)]; exact t10
  · have := G.1 a (by omega)
    rw [hk a (by omega)]; exact t12 a a1 a2
/-- a question to the class leaves the other side, and how much was told -/
theorem p2_oth {A : List Nat} {n s : Nat} (G : cl_G ck E) (F : cl_F ck A n s h h1) (hA : (A.all fun a => decide (16 ≤ a) && decide (a < 41)) = true) : ∀ a, 41 ≤ a → a < 72 → h1.2.2 a = h.2.2 a := fun a a1 a2 => by
  refine F.cell G (fun z => ?_) a2 rfl
  have := List.all_eq_true.mp hA a z
  simp only [Bool.and_eq_true, decide_eq_true_eq] at this
  omega
theorem p2_S.cl {A : List Nat} {n s : Nat} (G : cl_G ck E) (T : cl_T ck E m o h) (S : p2_S m h) (F : cl_F ck A n s h h1) (hA : (A.all fun a => decide (16 ≤ a) && decide (a < 41)) = true) (h24 : 24 ∉ A) (hm : m1 0 = m 0) : p2_S m1 h1 := by
  obtain ⟨g, q, f, e1, e2, e3, e4, e5, e6, e7⟩ := S
  have ot := p2_oth G F hA
  obtain ⟨f0, ef0, hO⟩ := T.C 24 (by decide) (by decide)
  rw [e3] at ef0; cases ef0
  refine ⟨g, q, f, (ot 43 (by decide) (by decide)).trans e1, (ot 71 (by decide) (by decide)).trans e2, F.cell G h24 (by decide) e3, by rw [hm]; exact e4, e5, fun i t hi ht => ?_, e7⟩
  obtain ⟨v, x, y, w1, w2⟩ := e6 i t hi ht
  have hk := hO i t ht
  have ht72 := G.1 t (by rw [hk]; decide)
  refine ⟨v, x, y, (F.2.2.2.2 t (T.al hk (by decide)) (fun z => ?_) (by rw [hk]; decide)).trans w1, w2⟩
  have := List.all_eq_true.mp hA t z
  simp only [Bool.and_eq_true, decide_eq_true_eq] at this
  omega
theorem cl_Y.cl {A : List Nat} {n s : Nat} (G : cl_G ck E) (Y : cl_Y h) (F : cl_F ck A n s h h1) (h28 : 28 ∉ A) : cl_Y h1 := by
  obtain ⟨f, e, b⟩ := Y
  exact ⟨f, F.cell G h28 (by decide) e, b⟩
theorem p2_R.cl {A : List Nat} {n s B : Nat} (G : cl_G ck E) (T : cl_T ck E m o h) (T1 : cl_T ck1 E1 m1 o1 h1) (R : p2_R o h B) (F : cl_F ck A n s h h1) (h16 : 16 ∉ A) (h37 : 37 ∉ A) (hs : s ≤ 1000) : p2_R o1 h1 (B + 1000) := by
  obtain ⟨f, e, b⟩ := R
  have z := cl_o0 (F.cell G h16 (by decide) T.e16) T1.e16
  have := F.2.2.2.1
  exact ⟨f, F.cell G h37 (by decide) e, by rw [z]; omega⟩
theorem p2_R.le {B B' : Nat} (R : p2_R o h B) (hb : B ≤ B') : p2_R o h B' := by
  obtain ⟨f, e, b⟩ := R
  exact ⟨f, e, Nat.le_trans b hb⟩
theorem p2_up (I : p2_I L xs j h) : p2_I L xs (j + 1) h := by
  obtain ⟨ck, E, m, o, mr, wr, G, T, Tr, Y, e0, S, ⟨f, e, b⟩, hc⟩ := I
  exact ⟨ck, E, m, o, mr, wr, G, T, Tr, Y, e0, S, ⟨f, e, by omega⟩, by omega⟩
/-- behind a question to the class -/
theorem p2_cl {A : List Nat} {n s : Nat} (G : cl_G ck E) (T : cl_T ck E m o h) (Tr : rf_T mr wr h) (Y : cl_Y h) (e0 : E 0 = .inl (0, L, .inl xs)) (S : p2_S m h) (R : p2_R o h (124992 + 1000 * j)) (hc : h.1 ≤ 72 + 20 * j) (T1 : cl_T ck E m1 o1 h1) (F : cl_F ck A n s h h1) (hm : m1 0 = m 0) (hA : (A.all fun a => decide (16 ≤ a) && decide (a < 41)) = true) (h24 : 24 ∉ A) (h28 : 28 ∉ A) (h16 : 16 ∉ A) (h37 : 37 ∉ A) (hn : n ≤ 20) (hs : s ≤ 1000) : p2_I L xs (j + 1) h1 := by
  have := F.2.2.1
  exact ⟨ck, E, m1, o1, mr, wr, G, T1, Tr.keepF T1.1 (p2_oth G F hA), Y.cl G F h28, e0, S.cl G T F hA h24 hm, (R.cl G T T1 F h16 h37 hs).le (by omega), by omega⟩
/-- the same, where kinds have grown and room is told apart -/
theorem p2_clg {A : List Nat} {n s : Nat} (G : cl_G ck E) (T : cl_T ck E m o h) (Tr : rf_T mr wr h) (S : p2_S m h) (hc : h.1 ≤ 72 + 20 * j) (G1 : cl_G ck1 E1) (T1 : cl_T ck1 E1 m1 o1 h1) (e1 : E1 0 = .inl (0, L, .inl xs)) (Y1 : cl_Y h1) (R1 : p2_R o1 h1 (124992 + 1000 * j + 1000)) (F : cl_F ck A n s h h1) (hm : m1 0 = m 0) (hA : (A.all fun a => decide (16 ≤ a) && decide (a < 41)) = true) (h24 : 24 ∉ A) (hn : n ≤ 20) : p2_I L xs (j + 1) h1 := by
  have := F.2.2.1
  exact ⟨ck1, E1, m1, o1, mr, wr, G1, T1, Tr.keepF T1.1 (p2_oth G F hA), Y1, e1, S.cl G T F hA h24 hm, R1.le (by omega), by omega⟩
/-- behind a question to the other side -/
theorem p2_rf {A : List Nat} {m2 : Nat → Int32} {w2 : Int64} (G : cl_G ck E) (T : cl_T ck E m o h) (Y : cl_Y h) (e0 : E 0 = .inl (0, L, .inl xs)) (S : p2_S m h) (R : p2_R o h (124992 + 1000 * j)) (hc : h.1 ≤ 72 + 20 * j) (T2 : rf_T m2 w2 h2) (F : rf_G A h h2) (hA : (A.all fun a => decide (41 ≤ a) && decide (a < 71) && decide (a ≠ 43)) = true) : p2_I L xs j h2 := by
  have no : ∀ a, (a < 41 ∨ 70 < a ∨ a = 43) → h2.2.2 a = h.2.2 a := fun a ha => F.2.2 a (fun z => by
    have := List.all_eq_true.mp hA a z
    simp only [Bool.and_eq_true, decide_eq_true_eq] at this
    omega)
  obtain ⟨g, q, f, e1, e2, e3, e4, e5, e6, e7⟩ := S
  obtain ⟨fy, ey, by_⟩ := Y
  obtain ⟨fr, er, br⟩ := R
  obtain ⟨f0, ef0, hO⟩ := T.C 24 (by decide) (by decide)
  rw [e3] at ef0; cases ef0
  refine ⟨ck, E, m, o, m2, w2, G, T.keepR G F.1 (fun a ha => no a (by omega)), T2, ⟨fy, (no 28 (by omega)).trans ey, by_⟩, e0, ⟨g, q, f, (no 43 (by omega)).trans e1, (no 71 (by omega)).trans e2, (no 24 (by omega)).trans e3, e4, e5, fun i t hi ht => ?_, e7⟩, ⟨fr, (no 37 (by omega)).trans er, by rw [F.2.1]; exact br⟩, by rw [F.1]; exact hc⟩
  obtain ⟨v, x, y, w1, w2⟩ := e6 i t hi ht
  have ht72 := G.1 t (by rw [hO i t ht]; decide)
  exact ⟨v, x, y, (no t (by omega)).trans w1, w2⟩
/-- where the other side's sizes change -/
theorem p2_rfS {A : List Nat} {m2 : Nat → Int32} {w2 : Int64} (G : cl_G ck E) (T : cl_T ck E m o h) (Y : cl_Y h) (e0 : E 0 = .inl (0, L, .inl xs)) (R : p2_R o h (124992 + 1000 * j)) (hc : h.1 ≤ 72 + 20 * j) (T2 : rf_T m2 w2 h2) (F : rf_G A h h2) (hA : (A.all fun a => decide (41 ≤ a) && decide (a < 72)) = true) (S2 : p2_S m h2) : p2_I L xs j h2 := by
  have no : ∀ a, (a < 41 ∨ 71 < a) → h2.2.2 a = h.2.2 a := fun a ha => F.2.2 a (fun z => by
    have := List.all_eq_true.mp hA a z
    simp only [Bool.and_eq_true, decide_eq_true_eq] at this
    omega)
  obtain ⟨fy, ey, by_⟩ := Y
  obtain ⟨fr, er, br⟩ := R
  exact ⟨ck, E, m, o, m2, w2, G, T.keepR G F.1 no, T2, ⟨fy, (no 28 (by omega)).trans ey, by_⟩, e0, S2, ⟨fr, (no 37 (by omega)).trans er, by rw [F.2.1]; exact br⟩, by rw [F.1]; exact hc⟩
theorem p2_hi {A : List Nat} (F : rf_G A h h2) (hA : (A.all fun a => decide (41 ≤ a) && decide (a < 72)) = true) : ∀ a, (a < 41 ∨ 71 < a) → h2.2.2 a = h.2.2 a := fun a ha => F.2.2 a (fun z => by
    have := List.all_eq_true.mp hA a z
    simp only [Bool.and_eq_true, decide_eq_true_eq] at this
    omega)
theorem p2_ad {n c : Nat} {k : Int32} (hk : k = Int32.ofNat c) : Int32.ofNat n + k = Int32.ofNat (n + c) := by rw [Int32.ofNat_add, hk]
theorem p2_in {n : Nat} (h : n < L) (hL : L ≤ 3584) : pm_in (Int32.ofNat n) L = true := by
  unfold pm_in
  rw [Bool.and_eq_true]
  refine ⟨decide_eq_true (Int32.le_iff_toInt_le.mpr (by rw [sf_ofT (by omega)]; have e0 : (0 : Int32).toInt = 0 := rfl; omega)), decide_eq_true (by rw [cl_tnN (by omega)]; exact h)⟩
end
end
section
section
/-! what was told, new: piece by piece -/
variable {d : Nat} {h : pm_H} {Q : Option Value → pm_H → Prop}
theorem cl_push_s {x : pm_E} {n : Nat} : (pm_push h x n).2.1 = h.2.1 + n := rfl
theorem cl_x2_0 {t : Nat} (e1c : h.2.2 1 = .inl (0, 4, .inl (fun j => pm_sv1.getD j 0))) (et : h.2.2 t = .inr (8, [.null, .int 0, .int 0, .int 0, .null, .null, .null, .null, .null])) (h72 : 72 ≤ t) (ht : h.1 = t + 1) (K : ∀ h_q : pm_H, h_q.1 = t + 2 → h_q.2.1 = h.2.1 + 600 → (∀ b, b ≠ t → b < t + 1 → h_q.2.2 b = h.2.2 b) → h_q.2.2 t = .inr (8, [.ref (t + 1), .int 0, .int 0, .int 0, .null, .null, .null, .null, .null]) → h_q.2.2 (t + 1) = .inl (2, 600, .inl (fun _ => (0 : Int32))) → pm_R (d + 0) 2 13 [.ref t] [] h_q Q) : pm_R (d + 0) 2 0 [.ref t] [] h Q := by
  refine pm_R_lo pm_M2 (pc_q := 1) rfl rfl rfl ?_
  refine pm_R_obj pm_M2 (pc_q := 4) rfl rfl rfl (Nat.le_of_ble_eq_true rfl) rfl ?_
  refine pm_R_lo pm_M2 (pc_q := 5) rfl rfl rfl ?_
  refine pm_R_op pm_M2 (pc_q := 8) (st_q := [.int 600, .ref t]) rfl rfl rfl ?_
  refine pm_R_newa pm_M2 (pc_q := 10) (N := 600) rfl rfl (by decide) rfl (Nat.le_of_ble_eq_true rfl) rfl ?_
  obtain ⟨h1, e1⟩ : ∃ z, pm_push h (.inl (2, pm_newty 2 600)) 600 = z := ⟨_, rfl⟩
  have a1 : h1.1 = h.1 + 1 := by rw [← e1]; rfl
  have s1 : h1.2.1 = h.2.1 + 600 := by rw [← e1]; exact cl_push_s
  have o1 : ∀ b, b < h.1 → h1.2.2 b = h.2.2 b := fun b hb => by rw [← e1]; exact cl_push_lt hb
  have n1 : h1.2.2 h.1 = .inl (2, 600, .inl (fun _ => (0 : Int32))) := by rw [← e1]; exact cl_push_eq
  rw [ht] at n1
  show pm_R _ 2 _ [.ref t] [.ref h.1, .ref t] (pm_push h (.inl (2, pm_newty 2 600)) 600) _
  rw [e1, ht]
  refine pm_R_put pm_M2 (pc_q := 13) (fs_q := [.ref (t + 1), .int 0, .int 0, .int 0, .null, .null, .null, .null, .null]) rfl rfl rfl ((o1 t (by omega)).trans et) (by omega) (by omega) (Nat.le_of_ble_eq_true rfl) rfl (Or.inr ⟨pm_N2_ini, rfl, rfl⟩) rfl rfl ?_
  exact K _ (by show h1.1 = _; omega) s1 (fun b hb hlt => by rw [cl_set_ne hb]; exact o1 b (by omega)) cl_set_eq (by rw [cl_set_ne (by omega)]; exact n1)
theorem cl_x2_n {t : Nat} (et : h.2.2 t = .inr (8, [.ref (t + 1), .int 0, .int 0, .int 0, .null, .null, .null, .null, .null])) (h72 : 72 ≤ t) (ht : t < h.1) (K : ∀ h_q : pm_H, h_q.1 = h.1 → h_q.2.1 = h.2.1 → (∀ b, b ≠ t → h_q.2.2 b = h.2.2 b) → h_q.2.2 t = .inr (8, [.ref (t + 1), .int 0, .int 0, .int (-1), .null, .null, .null, .null, .null]) → pm_R (d + 0) 2 28 [.ref t] [] h_q Q) : pm_R (d + 0) 2 13 [.ref t] [] h Q := by
  refine pm_R_lo pm_M2 (pc_q := 14) rfl rfl rfl ?_
  refine pm_R_op pm_M2 (pc_q := 15) (st_q := [.int 0, .ref t]) rfl rfl rfl ?_
  refine pm_R_put pm_M2 (pc_q := 18) (fs_q := [.ref (t + 1), .int 0, .int 0, .int 0, .null, .null, .null, .null, .null]) rfl rfl rfl et (by omega) ht (Nat.le_of_ble_eq_true rfl) rfl (Or.inr ⟨pm_N2_ini, rfl, rfl⟩) rfl rfl ?_
  refine pm_R_lo pm_M2 (pc_q := 19) rfl rfl rfl ?_
  refine pm_R_op pm_M2 (pc_q := 20) (st_q := [.int 0, .ref t]) rfl rfl rfl ?_
  refine pm_R_put pm_M2 (pc_q := 23) (fs_q := [.ref (t + 1), .int 0, .int 0, .int 0, .null, .null, .null, .null, .null]) rfl rfl rfl cl_set_eq (by omega) ht (Nat.le_of_ble_eq_true rfl) rfl (Or.inr ⟨pm_N2_ini, rfl, rfl⟩) rfl rfl ?_
  refine pm_R_lo pm_M2 (pc_q := 24) rfl rfl rfl ?_
  refine pm_R_op pm_M2 (pc_q := 25) (st_q := [.int (-1), .ref t]) rfl rfl rfl ?_
  refine pm_R_put pm_M2 (pc_q := 28) (fs_q := [.ref (t + 1), .int 0, .int 0, .int (-1), .null, .null, .null, .null, .null]) rfl rfl rfl cl_set_eq (by omega) ht (Nat.le_of_ble_eq_true rfl) rfl (Or.inr ⟨pm_N2_ini, rfl, rfl⟩) rfl rfl ?_
  exact K _ rfl rfl (fun b hb => by rw [cl_set_ne hb, cl_set_ne hb, cl_set_ne hb]) cl_set_eq
theorem cl_x2_1 {t : Nat} (e1c : h.2.2 1 = .inl (0, 4, .inl (fun j => pm_sv1.getD j 0))) (et : h.2.2 t = .inr (8, [.ref (t + 1), .int 0, .int 0, .int (-1), .null, .null, .null, .null, .null])) (h72 : 72 ≤ t) (ht : h.1 = t + 2) (K : ∀ h_q : pm_H, h_q.1 = t + 3 → h_q.2.1 = h.2.1 + 2 → (∀ b, b ≠ t → b < t + 2 → h_q.2.2 b = h.2.2 b) → h_q.2.2 t = .inr (8, [.ref (t + 1), .int 0, .int 0, .int (-1), .ref (t + 2), .null, .null, .null, .null]) → h_q.2.2 (t + 2) = .inl (4, 2, .inr (.inr (.inr (.inr (fun _ => none))))) → pm_R (d + 0) 2 40 [.ref t] [] h_q Q) : pm_R (d + 0) 2 28 [.ref t] [] h Q := by
  refine pm_R_lo pm_M2 (pc_q := 29) rfl rfl rfl ?_
  refine pm_R_stat pm_M2 (pc_q := 32) rfl rfl rfl ?_
  refine pm_R_op pm_M2 (pc_q := 33) (st_q := [.int 0, .ref 1, .ref t]) rfl rfl rfl ?_
  refine pm_R_iald pm_M2 (pc_q := 34) (v := 2) rfl e1c (by omega) rfl rfl rfl ?_
  refine pm_R_newq pm_M2 (pc_q := 37) (N := 2) rfl rfl rfl (by decide) rfl (Nat.le_of_ble_eq_true rfl) rfl ?_
  obtain ⟨h1, e1⟩ : ∃ z, pm_push h (.inl (4, pm_newty 4 2)) 2 = z := ⟨_, rfl⟩
  have a1 : h1.1 = h.1 + 1 := by rw [← e1]; rfl
  have s1 : h1.2.1 = h.2.1 + 2 := by rw [← e1]; exact cl_push_s
  have o1 : ∀ b, b < h.1 → h1.2.2 b = h.2.2 b := fun b hb => by rw [← e1]; exact cl_push_lt hb
  have n1 : h1.2.2 h.1 = .inl (4, 2, .inr (.inr (.inr (.inr (fun _ => none))))) := by rw [← e1]; exact cl_push_eq
  rw [ht] at n1
  show pm_R _ 2 _ [.ref t] [.ref h.1, .ref t] (pm_push h (.inl (4, pm_newty 4 2)) 2) _
  rw [e1, ht]
  refine pm_R_put pm_M2 (pc_q := 40) (fs_q := [.ref (t + 1), .int 0, .int 0, .int (-1), .ref (t + 2), .null, .null, .null, .null]) rfl rfl rfl ((o1 t (by omega)).trans et) (by omega) (by omega) (Nat.le_of_ble_eq_true rfl) rfl (Or.inr ⟨pm_N2_ini, rfl, rfl⟩) rfl rfl ?_
  exact K _ (by show h1.1 = _; omega) s1 (fun b hb hlt => by rw [cl_set_ne hb]; exact o1 b (by omega)) cl_set_eq (by rw [cl_set_ne (by omega)]; exact n1)
theorem cl_x2_2 {t : Nat} (e1c : h.2.2 1 = .inl (0, 4, .inl (fun j => pm_sv1.getD j 0))) (et : h.2.2 t = .inr (8, [.ref (t + 1), .int 0, .int 0, .int (-1), .ref (t + 2), .null, .null, .null, .null])) (h72 : 72 ≤ t) (ht : h.1 = t + 3) (K : ∀ h_q : pm_H, h_q.1 = t + 4 → h_q.2.1 = h.2.1 + 3 → (∀ b, b ≠ t → b < t + 3 → h_q.2.2 b = h.2.2 b) → h_q.2.2 t = .inr (8, [.ref (t + 1), .int 0, .int 0, .int (-1), .ref (t + 2), .ref (t + 3), .null, .null, .null]) → h_q.2.2 (t + 3) = .inl (5, 3, .inr (.inr (.inr (.inr (fun _ => none))))) → pm_R (d + 0) 2 52 [.ref t] [] h_q Q) : pm_R (d + 0) 2 40 [.ref t] [] h Q := by
  refine pm_R_lo pm_M2 (pc_q := 41) rfl rfl rfl ?_
  refine pm_R_stat pm_M2 (pc_q := 44) rfl rfl rfl ?_
  refine pm_R_op pm_M2 (pc_q := 45) (st_q := [.int 1, .ref 1, .ref t]) rfl rfl rfl ?_
  refine pm_R_iald pm_M2 (pc_q := 46) (v := 3) rfl e1c (by omega) rfl rfl rfl ?_
  refine pm_R_newq pm_M2 (pc_q := 49) (N := 3) rfl rfl rfl (by decide) rfl (Nat.le_of_ble_eq_true rfl) rfl ?_
  obtain ⟨h1, e1⟩ : ∃ z, pm_push h (.inl (5, pm_newty 5 3)) 3 = z := ⟨_, rfl⟩
  have a1 : h1.1 = h.1 + 1 := by rw [← e1]; rfl
  have s1 : h1.2.1 = h.2.1 + 3 := by rw [← e1]; exact cl_push_s
  have o1 : ∀ b, b < h.1 → h1.2.2 b = h.2.2 b := fun b hb => by rw [← e1]; exact cl_push_lt hb
  have n1 : h1.2.2 h.1 = .inl (5, 3, .inr (.inr (.inr (.inr (fun _ => none))))) := by rw [← e1]; exact cl_push_eq
  rw [ht] at n1
  show pm_R _ 2 _ [.ref t] [.ref h.1, .ref t] (pm_push h (.inl (5, pm_newty 5 3)) 3) _
  rw [e1, ht]
  refine pm_R_put pm_M2 (pc_q := 52) (fs_q := [.ref (t + 1), .int 0, .int 0, .int (-1), .ref (t + 2), .ref (t + 3), .null, .null, .null]) rfl rfl rfl ((o1 t (by omega)).trans et) (by omega) (by omega) (Nat.le_of_ble_eq_true rfl) rfl (Or.inr ⟨pm_N2_ini, rfl, rfl⟩) rfl rfl ?_
  exact K _ (by show h1.1 = _; omega) s1 (fun b hb hlt => by rw [cl_set_ne hb]; exact o1 b (by omega)) cl_set_eq (by rw [cl_set_ne (by omega)]; exact n1)
theorem cl_x2_3 {t : Nat} (e1c : h.2.2 1 = .inl (0, 4, .inl (fun j => pm_sv1.getD j 0))) (et : h.2.2 t = .inr (8, [.ref (t + 1), .int 0, .int 0, .int (-1), .ref (t + 2), .ref (t + 3), .null, .null, .null])) (h72 : 72 ≤ t) (ht : h.1 = t + 4) (K : ∀ h_q : pm_H, h_q.1 = t + 5 → h_q.2.1 = h.2.1 + 2 → (∀ b, b ≠ t → b < t + 4 → h_q.2.2 b = h.2.2 b) → h_q.2.2 t = .inr (8, [.ref (t + 1), .int 0, .int 0, .int (-1), .ref (t + 2), .ref (t + 3), .ref (t + 4), .null, .null]) → h_q.2.2 (t + 4) = .inl (6, 2, .inr (.inr (.inr (.inr (fun _ => none))))) → pm_R (d + 0) 2 64 [.ref t] [] h_q Q) : pm_R (d + 0) 2 52 [.ref t] [] h Q := by
  refine pm_R_lo pm_M2 (pc_q := 53) rfl rfl rfl ?_
  refine pm_R_stat pm_M2 (pc_q := 56) rfl rfl rfl ?_
  refine pm_R_op pm_M2 (pc_q := 57) (st_q := [.int 2, .ref 1, .ref t]) rfl rfl rfl ?_
  refine pm_R_iald pm_M2 (pc_q := 58) (v := 2) rfl e1c (by omega) rfl rfl rfl ?_
  refine pm_R_newq pm_M2 (pc_q := 61) (N := 2) rfl rfl rfl (by decide) rfl (Nat.le_of_ble_eq_true rfl) rfl ?_
  obtain ⟨h1, e1⟩ : ∃ z, pm_push h (.inl (6, pm_newty 6 2)) 2 = z := ⟨_, rfl⟩
  have a1 : h1.1 = h.1 + 1 := by rw [← e1]; rfl
  have s1 : h1.2.1 = h.2.1 + 2 := by rw [← e1]; exact cl_push_s
  have o1 : ∀ b, b < h.1 → h1.2.2 b = h.2.2 b := fun b hb => by rw [← e1]; exact cl_push_lt hb
  have n1 : h1.2.2 h.1 = .inl (6, 2, .inr (.inr (.inr (.inr (fun _ => none))))) := by rw [← e1]; exact cl_push_eq
  rw [ht] at n1
  show pm_R _ 2 _ [.ref t] [.ref h.1, .ref t] (pm_push h (.inl (6, pm_newty 6 2)) 2) _
  rw [e1, ht]
  refine pm_R_put pm_M2 (pc_q := 64) (fs_q := [.ref (t + 1), .int 0, .int 0, .int (-1), .ref (t + 2), .ref (t + 3), .ref (t + 4), .null, .null]) rfl rfl rfl ((o1 t (by omega)).trans et) (by omega) (by omega) (Nat.le_of_ble_eq_true rfl) rfl (Or.inr ⟨pm_N2_ini, rfl, rfl⟩) rfl rfl ?_
  exact K _ (by show h1.1 = _; omega) s1 (fun b hb hlt => by rw [cl_set_ne hb]; exact o1 b (by omega)) cl_set_eq (by rw [cl_set_ne (by omega)]; exact n1)
theorem cl_x2_4 {t : Nat} (e1c : h.2.2 1 = .inl (0, 4, .inl (fun j => pm_sv1.getD j 0))) (et : h.2.2 t = .inr (8, [.ref (t + 1), .int 0, .int 0, .int (-1), .ref (t + 2), .ref (t + 3), .ref (t + 4), .null, .null])) (h72 : 72 ≤ t) (ht : h.1 = t + 5) (K : ∀ h_q : pm_H, h_q.1 = t + 6 → h_q.2.1 = h.2.1 + 2 → (∀ b, b ≠ t → b < t + 5 → h_q.2.2 b = h.2.2 b) → h_q.2.2 t = .inr (8, [.ref (t + 1), .int 0, .int 0, .int (-1), .ref (t + 2), .ref (t + 3), .ref (t + 4), .ref (t + 5), .null]) → h_q.2.2 (t + 5) = .inl (7, 2, .inr (.inr (.inr (.inr (fun _ => none))))) → pm_R (d + 0) 2 76 [.ref t] [] h_q Q) : pm_R (d + 0) 2 64 [.ref t] [] h Q := by
  refine pm_R_lo pm_M2 (pc_q := 65) rfl rfl rfl ?_
  refine pm_R_stat pm_M2 (pc_q := 68) rfl rfl rfl ?_
  refine pm_R_op pm_M2 (pc_q := 69) (st_q := [.int 3, .ref 1, .ref t]) rfl rfl rfl ?_
  refine pm_R_iald pm_M2 (pc_q := 70) (v := 2) rfl e1c (by omega) rfl rfl rfl ?_
  refine pm_R_newq pm_M2 (pc_q := 73) (N := 2) rfl rfl rfl (by decide) rfl (Nat.le_of_ble_eq_true rfl) rfl ?_
  obtain ⟨h1, e1⟩ : ∃ z, pm_push h (.inl (7, pm_newty 7 2)) 2 = z := ⟨_, rfl⟩
  have a1 : h1.1 = h.1 + 1 := by rw [← e1]; rfl
  have s1 : h1.2.1 = h.2.1 + 2 := by rw [← e1]; exact cl_push_s
  have o1 : ∀ b, b < h.1 → h1.2.2 b = h.2.2 b := fun b hb => by rw [← e1]; exact cl_push_lt hb
  have n1 : h1.2.2 h.1 = .inl (7, 2, .inr (.inr (.inr (.inr (fun _ => none))))) := by rw [← e1]; exact cl_push_eq
  rw [ht] at n1
  show pm_R _ 2 _ [.ref t] [.ref h.1, .ref t] (pm_push h (.inl (7, pm_newty 7 2)) 2) _
  rw [e1, ht]
  refine pm_R_put pm_M2 (pc_q := 76) (fs_q := [.ref (t + 1), .int 0, .int 0, .int (-1), .ref (t + 2), .ref (t + 3), .ref (t + 4), .ref (t + 5), .null]) rfl rfl rfl ((o1 t (by omega)).trans et) (by omega) (by omega) (Nat.le_of_ble_eq_true rfl) rfl (Or.inr ⟨pm_N2_ini, rfl, rfl⟩) rfl rfl ?_
  exact K _ (by show h1.1 = _; omega) s1 (fun b hb hlt => by rw [cl_set_ne hb]; exact o1 b (by omega)) cl_set_eq (by rw [cl_set_ne (by omega)]; exact n1)
theorem cl_x2_5 {t : Nat} (e1c : h.2.2 1 = .inl (0, 4, .inl (fun j => pm_sv1.getD j 0))) (et : h.2.2 t = .inr (8, [.ref (t + 1), .int 0, .int 0, .int (-1), .ref (t + 2), .ref (t + 3), .ref (t + 4), .ref (t + 5), .null])) (h72 : 72 ≤ t) (ht : h.1 = t + 6) (K : ∀ h_q : pm_H, h_q.1 = t + 7 → h_q.2.1 = h.2.1 + 4 → (∀ b, b ≠ t → b < t + 6 → h_q.2.2 b = h.2.2 b) → h_q.2.2 t = .inr (8, [.ref (t + 1), .int 0, .int 0, .int (-1), .ref (t + 2), .ref (t + 3), .ref (t + 4), .ref (t + 5), .ref (t + 6)]) → h_q.2.2 (t + 6) = .inl (0, 4, .inl (fun _ => (0 : Int32))) → pm_R (d + 0) 2 83 [.ref t] [] h_q Q) : pm_R (d + 0) 2 76 [.ref t] [] h Q := by
  refine pm_R_lo pm_M2 (pc_q := 77) rfl rfl rfl ?_
  refine pm_R_op pm_M2 (pc_q := 78) (st_q := [.int 4, .ref t]) rfl rfl rfl ?_
  refine pm_R_newa pm_M2 (pc_q := 80) (N := 4) rfl rfl (by decide) rfl (Nat.le_of_ble_eq_true rfl) rfl ?_
  obtain ⟨h1, e1⟩ : ∃ z, pm_push h (.inl (0, pm_newty 0 4)) 4 = z := ⟨_, rfl⟩
  have a1 : h1.1 = h.1 + 1 := by rw [← e1]; rfl
  have s1 : h1.2.1 = h.2.1 + 4 := by rw [← e1]; exact cl_push_s
  have o1 : ∀ b, b < h.1 → h1.2.2 b = h.2.2 b := fun b hb => by rw [← e1]; exact cl_push_lt hb
  have n1 : h1.2.2 h.1 = .inl (0, 4, .inl (fun _ => (0 : Int32))) := by rw [← e1]; exact cl_push_eq
  rw [ht] at n1
  show pm_R _ 2 _ [.ref t] [.ref h.1, .ref t] (pm_push h (.inl (0, pm_newty 0 4)) 4) _
  rw [e1, ht]
  refine pm_R_put pm_M2 (pc_q := 83) (fs_q := [.ref (t + 1), .int 0, .int 0, .int (-1), .ref (t + 2), .ref (t + 3), .ref (t + 4), .ref (t + 5), .ref (t + 6)]) rfl rfl rfl ((o1 t (by omega)).trans et) (by omega) (by omega) (Nat.le_of_ble_eq_true rfl) rfl (Or.inr ⟨pm_N2_ini, rfl, rfl⟩) rfl rfl ?_
  exact K _ (by show h1.1 = _; omega) s1 (fun b hb hlt => by rw [cl_set_ne hb]; exact o1 b (by omega)) cl_set_eq (by rw [cl_set_ne (by omega)]; exact n1)
theorem cl_x2 {t : Nat} (e1c : h.2.2 1 = .inl (0, 4, .inl (fun j => pm_sv1.getD j 0))) (et : h.2.2 t = .inr (8, [.null, .int 0, .int 0, .int 0, .null, .null, .null, .null, .null])) (h72 : 72 ≤ t) (ht : h.1 = t + 1) (K : ∀ h_q : pm_H, h_q.1 = t + 7 → h_q.2.1 = h.2.1 + 600 + 2 + 3 + 2 + 2 + 4 → (∀ b, b < t → h_q.2.2 b = h.2.2 b) → h_q.2.2 t = .inr (8, [.ref (t + 1), .int 0, .int 0, .int (-1), .ref (t + 2), .ref (t + 3), .ref (t + 4), .ref (t + 5), .ref (t + 6)]) → h_q.2.2 (t + 1) = .inl (2, 600, .inl (fun _ => (0 : Int32))) → h_q.2.2 (t + 2) = .inl (4, 2, .inr (.inr (.inr (.inr (fun _ => none))))) → h_q.2.2 (t + 3) = .inl (5, 3, .inr (.inr (.inr (.inr (fun _ => none))))) → h_q.2.2 (t + 4) = .inl (6, 2, .inr (.inr (.inr (.inr (fun _ => none))))) → h_q.2.2 (t + 5) = .inl (7, 2, .inr (.inr (.inr (.inr (fun _ => none))))) → h_q.2.2 (t + 6) = .inl (0, 4, .inl (fun _ => (0 : Int32))) → Q none h_q) : pm_R (d + 0) 2 0 [.ref t] [] h Q := by
  refine cl_x2_0 e1c et h72 ht (fun h0 a0 s0 o0 t0 c1 => ?_)
  refine cl_x2_n t0 h72 (by omega) (fun h1 a1 s1 o1 t1 => ?_)
  have c1' := (o1 (t + 1) (by omega)).trans c1
  have q1 := ((o1 1 (by omega)).trans (o0 1 (by omega) (by omega))).trans e1c
  refine cl_x2_1 q1 t1 h72 (by omega) (fun h2 a2 s2 o2 t2 c2 => ?_)
  have q2 := (o2 1 (by omega) (by omega)).trans q1
  refine cl_x2_2 q2 t2 h72 (by omega) (fun h3 a3 s3 o3 t3 c3 => ?_)
  have q3 := (o3 1 (by omega) (by omega)).trans q2
  refine cl_x2_3 q3 t3 h72 (by omega) (fun h4 a4 s4 o4 t4 c4 => ?_)
  have q4 := (o4 1 (by omega) (by omega)).trans q3
  refine cl_x2_4 q4 t4 h72 (by omega) (fun h5 a5 s5 o5 t5 c5 => ?_)
  have q5 := (o5 1 (by omega) (by omega)).trans q4
  refine cl_x2_5 q5 t5 h72 (by omega) (fun h6 a6 s6 o6 t6 c6 => ?_)
  refine pm_R_ret pm_M2 (r := none) rfl rfl (K h6 a6 (by rw [s6, s5, s4, s3, s2, s1, s0]) (fun b hb => ?_) t6 ?_ ?_ ?_ ?_ ?_ c6)
  · rw [o6 b (by omega) (by omega), o5 b (by omega) (by omega), o4 b (by omega) (by omega), o3 b (by omega) (by omega), o2 b (by omega) (by omega), o1 b (by omega), o0 b (by omega) (by omega)]
  · rw [o6 (t + 1) (by omega) (by omega), o5 (t + 1) (by omega) (by omega), o4 (t + 1) (by omega) (by omega), o3 (t + 1) (by omega) (by omega), o2 (t + 1) (by omega) (by omega)]; exact c1'
  · rw [o6 (t + 2) (by omega) (by omega), o5 (t + 2) (by omega) (by omega), o4 (t + 2) (by omega) (by omega), o3 (t + 2) (by omega) (by omega)]; exact c2
  · rw [o6 (t + 3) (by omega) (by omega), o5 (t + 3) (by omega) (by omega), o4 (t + 3) (by omega) (by omega)]; exact c3
  · rw [o6 (t + 4) (by omega) (by omega), o5 (t + 4) (by omega) (by omega)]; exact c4
  · rw [o6 (t + 5) (by omega) (by omega)]; exact c5
end
end
section
section
/-! images: made, taken, given back -/
variable {d : Nat} {h : pm_H} {Q : Option Value → pm_H → Prop} {ck : cl_K} {E : Nat → pm_E} {m : Nat → Int32} {o : Nat → Option Nat}
theorem cl_T.put24 (G : cl_G ck E) (T : cl_T ck E m o h) {f : Nat → Option Nat} (hx : cl_O ck 15 f) : cl_T ck E m o (pm_set h 24 (.inl (8, 3, .inr (.inr (.inr (.inr f)))))) := by
  refine ⟨T.1, by rw [cl_set_ne (by omega)]; exact T.e16, by rw [cl_set_ne (by omega)]; exact T.e17, by rw [cl_set_ne (by omega)]; exact T.e25, by rw [cl_set_ne (by omega)]; exact T.e30, by rw [cl_set_ne (by omega)]; exact T.e31, by rw [cl_set_ne (by omega)]; exact T.e33, T.B, fun b b1 b2 => ?_, ?_, T.2.2.2.2.2.2.2.2.2.2.1, fun b b1 b2 => ?_, cl_D.low G T.D (fun b hb => cl_set_ne (by omega)), T.oo, fun b hb => by rw [cl_set_ne (by omega)]; exact T.old hb⟩
  · by_cases hb : b = 24
    · subst hb; rw [cl_set_eq]; exact ⟨f, rfl, hx⟩
    · rw [cl_set_ne hb]; exact T.C b b1 b2
  · rw [cl_set_ne (by omega), cl_set_ne (by omega), cl_set_ne (by omega), cl_set_ne (by omega), cl_set_ne (by omega)]; exact T.N
  · have := G.1 b (by omega)
    rw [cl_set_ne (by omega)]
    exact T.2.2.2.2.2.2.2.2.2.2.2.1 b b1 b2
theorem cl_c57_t {a0 : Int32} {t : Nat} {f : Nat → Option Nat} (G : cl_G ck E) (T : cl_T ck E m o h) (e24 : h.2.2 24 = .inl (8, 3, .inr (.inr (.inr (.inr f))))) (hj : pm_in a0 3 = true) (hf : f a0.toNatClampNeg = some t) (hk : ck t = 15) (K : ∀ h_q, cl_T ck E m o h_q → h_q.1 = h.1 → h_q.2.1 = h.2.1 → (∀ x, (x < t ∨ t + 6 < x) → h_q.2.2 x = h.2.2 x) → h_q.2.2 t = .inr (8, [.ref (t + 1), .int (m 0), .int (m 1), .int (m 2), .ref (t + 2), .ref (t + 3), .ref (t + 4), .ref (t + 5), .ref (t + 6)]) → Q (some (.int 1)) h_q) : pm_R (d + 2) 57 33 [.ref 16, .int a0] [] h Q := by
  have h72 := G.1 t (by rw [hk]; decide)
  obtain ⟨q1, q2, q3, q4, q5, q6⟩ := G.2.2.2.2.2.1 t hk
  have l6 := T.al q6 (by decide)
  have hT := T.1
  refine pm_R_lo pm_M57 (pc_q := 34) rfl rfl rfl ?_
  refine pm_R_get pm_M57 (pc_q := 37) (v := .ref 24) rfl rfl T.e16 (by decide) (T.lt (by decide)) rfl rfl ?_
  refine pm_R_lo pm_M57 (pc_q := 38) rfl rfl rfl ?_
  refine pm_R_aald pm_M57 (pc_q := 39) (v := .ref t) rfl e24 (by decide) (by decide) (by decide) (T.lt (by decide)) hj (by rw [hf]; rfl) rfl ?_
  refine pm_R_lo pm_M57 (pc_q := 40) rfl rfl rfl ?_
  refine pm_R_get pm_M57 (pc_q := 43) (v := .ref 17) rfl rfl T.e16 (by decide) (T.lt (by decide)) rfl rfl ?_
  obtain ⟨s, f', u, b1, b2, b3, et, ⟨tp, c1⟩, ⟨f1, c2, o1⟩, ⟨f2, c3, o2⟩, ⟨f3, c4, o3⟩, ⟨f4, c5, o4⟩, ⟨c, c6, o6⟩, nn⟩ := T.D.1 t hk
  obtain ⟨tp2, x1⟩ := T.C 18 (by decide) (by decide)
  obtain ⟨g1, x2, y1⟩ := T.C 19 (by decide) (by decide)
  obtain ⟨g2, x3, y2⟩ := T.C 20 (by decide) (by decide)
  obtain ⟨g3, x4, y3⟩ := T.C 21 (by decide) (by decide)
  obtain ⟨g4, x5, y4⟩ := T.C 22 (by decide) (by decide)
  obtain ⟨cc, x6, y6⟩ := T.C 23 (by decide) (by decide)
  refine pm_R_cv pm_M57 (pc_q := 46) (a := t) (ra := [.ref 17]) (rest := []) (ls_q := [.ref t, .ref 17]) rfl rfl (Or.inl rfl) pm_M58 et rfl (G.ge hk (by decide)) (T.al hk (by decide)) rfl rfl (Nat.le_of_ble_eq_true rfl) rfl rfl ?_
  refine cl_c58 (d := d) (a := t) (b := 17) (by omega) l6 (by decide) (by omega) (by omega) ⟨rfl, rfl, fun _ _ => rfl, et, c1, c2, c3, c4, c5, c6⟩ T.e17 x1 x2 x3 x4 x5 x6 (fun i x hx => ?_) (fun i x hx => ?_) (fun i x hx => ?_) (fun i x hx => ?_) (fun h_q P => ?_)
  · have z := y1 i x hx; obtain ⟨w1, w2, w3⟩ := cl_txt1 G T z; exact ⟨w1, w2, w3, cl_off G hk z (Or.inl (by decide))⟩
  · have z := y2 i x hx; obtain ⟨w1, w2, w3⟩ := cl_txt2 G T z; exact ⟨w1, w2, w3, cl_off G hk z (Or.inl (by decide))⟩
  · have z := y3 i x hx; obtain ⟨w1, w2, w3⟩ := cl_txt3 G T z; exact ⟨w1, w2, w3, cl_off G hk z (Or.inl (by decide))⟩
  · have z := y4 i x hx; obtain ⟨w1, w2, w3⟩ := cl_txt4 G T z; exact ⟨w1, w2, w3, cl_off G hk z (Or.inl (by decide))⟩
  · obtain ⟨p1, p2, p3, p4, k1, k2, k3, k4, k5, k6⟩ := P
    have I : cl_I ck h_q t := ⟨m 0, m 1, m 2, T.B 0, T.B 1, T.B 2, p4, ⟨_, k1⟩, ⟨_, k2, (o1.upo (y1 0)).upo (y1 1)⟩, ⟨_, k3, ((o2.upo (y2 0)).upo (y2 1)).upo (y2 2)⟩, ⟨_, k4, (o3.upo (y3 0)).upo (y3 1)⟩, ⟨_, k5, (o4.upo (y4 0)).upo (y4 1)⟩, ⟨_, k6, cl_cpB o6 y6⟩, ((T.N.fn x2 x3 x4 x5 x6).cp y6).back k2 k3 k4 k5 k6⟩
    show pm_R _ 57 46 [.ref 16, .int a0] [] _ _
    refine pm_R_op pm_M57 (pc_q := 47) (st_q := [.int 1]) rfl rfl rfl ?_
    exact pm_R_ret pm_M57 (r := some (.int 1)) rfl rfl (K h_q (T.img G hk p1 p3 I) p1 p2 p3 p4)
/-- image -/
theorem cl_c57 {a0 : Int32} {f : Nat → Option Nat} (G : cl_G ck E) (T : cl_T ck E m o h) (e24 : h.2.2 24 = .inl (8, 3, .inr (.inr (.inr (.inr f))))) (K0 : (a0.toInt < 0 ∨ 3 ≤ a0.toInt) → Q (some (.int 0)) h) (K1 : ∀ (t : Nat) (ck_q : cl_K) (h_q : pm_H), 0 ≤ a0.toInt → a0.toInt < 3 → (∀ b, b < h.1 → ck_q b = ck b) → cl_G ck_q E → cl_T ck_q E m o h_q → (h.1 ≤ h_q.1 ∧ h_q.1 ≤ h.1 + 7 ∧ h_q.2.1 ≤ h.2.1 + 622) → h_q.2.2 24 = .inl (8, 3, .inr (.inr (.inr (.inr (va_up f a0.toNatClampNeg (some t)))))) → (f a0.toNatClampNeg = some t ∨ h.1 ≤ t) → ck_q t = 15 → h_q.2.2 t = .inr (8, [.ref (t + 1), .int (m 0), .int (m 1), .int (m 2), .ref (t + 2), .ref (t + 3), .ref (t + 4), .ref (t + 5), .ref (t + 6)]) → (∀ b, b < h.1 → ck b = 15 → b ≠ t → h_q.2.2 b = h.2.2 b) → (∀ a, a < 72 → a ≠ 24 → h_q.2.2 a = h.2.2 a) → Q (some (.int 1)) h_q) : pm_R (d + 2) 57 0 [.ref 16, .int a0] [] h Q := by
  have h72 := T.1
  refine pm_R_lo pm_M57 (pc_q := 1) rfl rfl rfl ?_
  refine pm_R_ifc pm_M57 (t := 9) (pc_q := 4) rfl rfl rfl (fun c => ?_) (fun c => ?_)
  · refine pm_R_op pm_M57 (pc_q := 10) (st_q := [.int 0]) rfl rfl rfl ?_
    exact pm_R_ret pm_M57 (r := some (.int 0)) rfl rfl (K0 (Or.inl (Int32.lt_iff_toInt_lt.mp c)))
  have c0 : 0 ≤ a0.toInt := Int32.le_iff_toInt_le.mp (Int32.not_lt.mp c)
  refine pm_R_lo pm_M57 (pc_q := 5) rfl rfl rfl ?_
  refine pm_R_op pm_M57 (pc_q := 6) (st_q := [.int 3, .int a0]) rfl rfl rfl ?_
  refine pm_R_icmp pm_M57 (t := 11) (pc_q := 9) rfl rfl rfl (fun c3 => ?_) (fun c3 => ?_)
  · have c3' : a0.toInt < 3 := Int32.lt_iff_toInt_lt.mp c3
    have hj : pm_in a0 3 = true := sf_in (a := 0) (b := 2) ⟨c0, by omega⟩ (by decide) (by decide)
    obtain ⟨f0, ef0, hO⟩ := T.C 24 (by decide) (by decide)
    rw [e24] at ef0; cases ef0
    refine pm_R_lo pm_M57 (pc_q := 12) rfl rfl rfl ?_
    refine pm_R_get pm_M57 (pc_q := 15) (v := .ref 24) rfl rfl T.e16 (by decide) (T.lt (by decide)) rfl rfl ?_
    refine pm_R_lo pm_M57 (pc_q := 16) rfl rfl rfl ?_
    rcases hs : f a0.toNatClampNeg with _ | t
    · refine pm_R_aald pm_M57 (pc_q := 17) (v := .null) rfl e24 (by decide) (by decide) (by decide) (T.lt (by decide)) hj (by rw [hs]; rfl) rfl ?_
      refine pm_R_br pm_M57 (pc_q := 20) rfl rfl ?_
      refine pm_R_lo pm_M57 (pc_q := 21) rfl rfl rfl ?_
      refine pm_R_get pm_M57 (pc_q := 24) (v := .ref 24) rfl rfl T.e16 (by decide) (T.lt (by decide)) rfl rfl ?_
      refine pm_R_lo pm_M57 (pc_q := 25) rfl rfl rfl ?_
      refine pm_R_new pm_M57 (pc_q := 28) (fs := [.null, .int 0, .int 0, .int 0, .null, .null, .null, .null, .null]) rfl rfl rfl rfl rfl ?_
      refine pm_R_op pm_M57 (pc_q := 29) (st_q := [.ref h.1, .ref h.1, .int a0, .ref 24]) rfl rfl rfl ?_
      obtain ⟨h1, e1⟩ : ∃ z, pm_push h (.inr (8, [.null, .int 0, .int 0, .int 0, .null, .null, .null, .null, .null])) 9 = z := ⟨_, rfl⟩
      have a1 : h1.1 = h.1 + 1 := by rw [← e1]; rfl
      have s1 : h1.2.1 = h.2.1 + 9 := by rw [← e1]; rfl
      have o1 : ∀ b, b < h.1 → h1.2.2 b = h.2.2 b := fun b hb => by rw [← e1]; exact cl_push_lt hb
      have t1 : h1.2.2 h.1 = .inr (8, [.null, .int 0, .int 0, .int 0, .null, .null, .null, .null, .null]) := by rw [← e1]; exact cl_push_eq
      show pm_R _ 57 29 _ _ (pm_push h (.inr (8, [.null, .int 0, .int 0, .int 0, .null, .null, .null, .null, .null])) 9) _
      rw [e1]
      refine pm_R_ci pm_M57 (pc_q := 32) (a := h.1) (ra := []) (rest := [.ref h.1, .int a0, .ref 24]) (ls_q := [.ref h.1]) rfl rfl (Or.inr rfl) pm_M2 rfl rfl (Nat.le_of_ble_eq_true rfl) rfl rfl ?_
      refine cl_x2 (d := d + 1) (t := h.1) ((o1 1 (by omega)).trans ((T.old (by decide)).trans G.2.2.2.2.2.2.2.2.1)) t1 h72 a1 (fun h2 a2 s2 o2 t2 k1 k2 k3 k4 k5 k6 => ?_)
      have hh : ∀ b, b < h.1 → h2.2.2 b = h.2.2 b := fun b hb => (o2 b hb).trans (o1 b hb)
      have lt0 := T.2.2.2.2.2.2.2.2.2.2.1
      have G2 : cl_G (cl_gr ck h.1 7 15) E := cl_gr_G G lt0 h72 (by unfold cl_gp; omega) (fun _ _ => rfl) (fun z => absurd z (by decide)) (fun z => absurd z (by decide)) (fun z => absurd z (by decide)) (fun z => absurd z (by decide))
      have nO : ∀ k, cl_O (cl_gr ck h.1 7 15) k (fun _ => none) := fun k i b hb => by cases hb
      have I0 : cl_I (cl_gr ck h.1 7 15) h2 h.1 := ⟨0, 0, -1, ⟨by decide, by decide⟩, ⟨by decide, by decide⟩, ⟨by decide, by decide⟩, t2, ⟨_, k1⟩, ⟨_, k2, nO _⟩, ⟨_, k3, nO _⟩, ⟨_, k4, nO _⟩, ⟨_, k5, nO _⟩, ⟨_, k6, fun j => sf_z (by decide) (by split <;> decide)⟩, cl_NF.back ⟨fun i hi => absurd hi (by show ¬ (i : Int) < 0; omega), fun i hi => absurd hi (by show ¬ (i : Int) < 0; omega), fun i hi => absurd hi (by show ¬ (i : Int) < 0; omega), fun i hi => absurd hi (by show ¬ (i : Int) < 0; omega)⟩ k2 k3 k4 k5 k6⟩
      have T2 : cl_T (cl_gr ck h.1 7 15) E m o h2 := T.grow G (by unfold cl_gp; omega) (fun _ _ => rfl) hh (by omega) (fun z => absurd z (by decide)) (fun _ => I0) (fun z => absurd z (by decide)) (fun z => absurd z (by decide))
      have kc : cl_gr ck h.1 7 15 h.1 = 15 := cl_gr_new0 (by decide)
      have old := cl_gr_old (n := 7) (k0 := 15) lt0
      have e2 := (hh 24 (by omega)).trans e24
      have hO2 : cl_O (cl_gr ck h.1 7 15) 15 f := fun i b hb => by
        have := hO i b hb
        rw [old b (by rw [this]; decide)]; exact this
      have T3 := T2.put24 G2 (f := va_up f a0.toNatClampNeg (some h.1)) (hO2.up kc)
      show pm_R _ 57 32 [.ref 16, .int a0] [.ref h.1, .int a0, .ref 24] _ _
      refine pm_R_aast pm_M57 (pc_q := 33) rfl e2 t2 rfl (by decide) (by omega) (by omega) (by omega) hj rfl ?_
      refine cl_c57_t (d := d) (t := h.1) G2 T3 cl_set_eq hj cl_upS kc (fun h_q T' p1 p2 p3 p4 => ?_)
      have hb' : ∀ b, b < h.1 → b ≠ 24 → h_q.2.2 b = h.2.2 b := fun b hb hn => by rw [p3 b (Or.inl hb), cl_set_ne hn]; exact hh b hb
      refine K1 h.1 _ h_q c0 c3' (fun b hb => cl_gr_lt hb) G2 T' ⟨by rw [p1]; show h.1 ≤ h2.1; omega, by rw [p1]; show h2.1 ≤ _; omega, by rw [p2]; show h2.2.1 ≤ _; omega⟩ ?_ (Or.inr (Nat.le_refl _)) kc p4 (fun b hb hk hn => ?_) (fun a ha hn => hb' a (by omega) hn)
      · rw [p3 24 (Or.inl (by omega))]; exact cl_set_eq
      · have := G.1 b (by rw [hk]; decide)
        exact hb' b hb (by omega)
    · have hk := hO _ _ hs
      have ht72 := G.1 t (by rw [hk]; decide)
      refine pm_R_aald pm_M57 (pc_q := 17) (v := .ref t) rfl e24 (by decide) (by decide) (by decide) (T.lt (by decide)) hj (by rw [hs]; rfl) rfl ?_
      refine pm_R_br pm_M57 (pc_q := 33) rfl rfl ?_
      refine cl_c57_t (d := d) (t := t) G T e24 hj hs hk (fun h_q T' p1 p2 p3 p4 => ?_)
      refine K1 t ck h_q c0 c3' (fun _ _ => rfl) G T' ⟨by omega, by omega, by omega⟩ ?_ (Or.inl hs) hk p4 (fun b hb hkb hn => p3 b (by have := cl_off15 G hk hkb hn 0 (by decide); omega)) (fun a ha hn => p3 a (by omega))
      rw [p3 24 (by omega), e24]
      have : va_up f a0.toNatClampNeg (some t) = f := by
        funext i
        by_cases e : i = a0.toNatClampNeg
        · rw [e, cl_upS, hs]
        · exact cl_upO e
      rw [this]
  · refine pm_R_op pm_M57 (pc_q := 10) (st_q := [.int 0]) rfl rfl rfl ?_
    exact pm_R_ret pm_M57 (r := some (.int 0)) rfl rfl (K0 (Or.inr (Int32.le_iff_toInt_le.mp (Int32.not_lt.mp c3))))
end
end
section
section
/-! images: made, taken, given back -/
variable {d : Nat} {h : pm_H} {Q : Option Value → pm_H → Prop} {ck : cl_K} {E : Nat → pm_E} {m : Nat → Int32} {o : Nat → Option Nat}
/-- again -/
theorem cl_c60 {a0 : Int32} {f : Nat → Option Nat} (G : cl_G ck E) (T : cl_T ck E m o h) (e24 : h.2.2 24 = .inl (8, 3, .inr (.inr (.inr (.inr f))))) (K0 : ((a0.toInt < 0 ∨ 3 ≤ a0.toInt) ∨ (0 ≤ a0.toInt ∧ a0.toInt < 3 ∧ f a0.toNatClampNeg = none)) → Q (some (.int 0)) h) (K1 : ∀ (t : Nat) (v1 v2 v3 : Int32) (m_q : Nat → Int32) (h_q : pm_H), 0 ≤ a0.toInt → a0.toInt < 3 → f a0.toNatClampNeg = some t → h.2.2 t = .inr (8, [.ref (t + 1), .int v1, .int v2, .int v3, .ref (t + 2), .ref (t + 3), .ref (t + 4), .ref (t + 5), .ref (t + 6)]) → m_q 0 = v1 → cl_T ck E m_q o h_q → cl_F ck [17, 18, 19, 20, 21, 22, 23] 0 0 h h_q → rf_W [0, 1, 2] m m_q → (∀ x, (x < 17 ∨ 23 < x) → h_q.2.2 x = h.2.2 x) → Q (some (.int 1)) h_q) : pm_R (d + 2) 60 0 [.ref 16, .int a0] [] h Q := by
  have h72 := T.1
  refine pm_R_lo pm_M60 (pc_q := 1) rfl rfl rfl ?_
  refine pm_R_ifc pm_M60 (t := 18) (pc_q := 4) rfl rfl rfl (fun c => ?_) (fun c => ?_)
  · refine pm_R_op pm_M60 (pc_q := 19) (st_q := [.int 0]) rfl rfl rfl ?_
    exact pm_R_ret pm_M60 (r := some (.int 0)) rfl rfl (K0 (Or.inl (Or.inl (Int32.lt_iff_toInt_lt.mp c))))
  have c0 : 0 ≤ a0.toInt := Int32.le_iff_toInt_le.mp (Int32.not_lt.mp c)
  refine pm_R_lo pm_M60 (pc_q := 5) rfl rfl rfl ?_
  refine pm_R_op pm_M60 (pc_q := 6) (st_q := [.int 3, .int a0]) rfl rfl rfl ?_
  refine pm_R_icmp pm_M60 (t := 18) (pc_q := 9) rfl rfl rfl (fun c3 => ?_) (fun c3 => ?_)
  · refine pm_R_op pm_M60 (pc_q := 19) (st_q := [.int 0]) rfl rfl rfl ?_
    exact pm_R_ret pm_M60 (r := some (.int 0)) rfl rfl (K0 (Or.inl (Or.inr (Int32.le_iff_toInt_le.mp c3))))
  · have c3' : a0.toInt < 3 := Int32.lt_iff_toInt_lt.mp (Int32.not_le.mp c3)
    have hj : pm_in a0 3 = true := sf_in (a := 0) (b := 2) ⟨c0, by omega⟩ (by decide) (by decide)
    obtain ⟨f0, ef0, hO⟩ := T.C 24 (by decide) (by decide)
    rw [e24] at ef0; cases ef0
    refine pm_R_lo pm_M60 (pc_q := 10) rfl rfl rfl ?_
    refine pm_R_get pm_M60 (pc_q := 13) (v := .ref 24) rfl rfl T.e16 (by decide) (T.lt (by decide)) rfl rfl ?_
    refine pm_R_lo pm_M60 (pc_q := 14) rfl rfl rfl ?_
    rcases hs : f a0.toNatClampNeg with _ | t
    · refine pm_R_aald pm_M60 (pc_q := 15) (v := .null) rfl e24 (by decide) (by decide) (by decide) (T.lt (by decide)) hj (by rw [hs]; rfl) rfl ?_
      refine pm_R_br pm_M60 (pc_q := 18) rfl rfl ?_
      refine pm_R_op pm_M60 (pc_q := 19) (st_q := [.int 0]) rfl rfl rfl ?_
      exact pm_R_ret pm_M60 (r := some (.int 0)) rfl rfl (K0 (Or.inr ⟨c0, c3', hs⟩))
    · have hk := hO _ _ hs
      have ht72 := G.1 t (by rw [hk]; decide)
      obtain ⟨q1, q2, q3, q4, q5, q6⟩ := G.2.2.2.2.2.1 t hk
      have l6 := T.al q6 (by decide)
      refine pm_R_aald pm_M60 (pc_q := 15) (v := .ref t) rfl e24 (by decide) (by decide) (by decide) (T.lt (by decide)) hj (by rw [hs]; rfl) rfl ?_
      refine pm_R_br pm_M60 (pc_q := 20) rfl rfl ?_
      refine pm_R_lo pm_M60 (pc_q := 21) rfl rfl rfl ?_
      refine pm_R_get pm_M60 (pc_q := 24) (v := .ref 17) rfl rfl T.e16 (by decide) (T.lt (by decide)) rfl rfl ?_
      refine pm_R_lo pm_M60 (pc_q := 25) rfl rfl rfl ?_
      refine pm_R_get pm_M60 (pc_q := 28) (v := .ref 24) rfl rfl T.e16 (by decide) (T.lt (by decide)) rfl rfl ?_
      refine pm_R_lo pm_M60 (pc_q := 29) rfl rfl rfl ?_
      refine pm_R_aald pm_M60 (pc_q := 30) (v := .ref t) rfl e24 (by decide) (by decide) (by decide) (T.lt (by decide)) hj (by rw [hs]; rfl) rfl ?_
      obtain ⟨v1, v2, v3, b1, b2, b3, et, ⟨tp2, x1⟩, ⟨g1, x2, y1⟩, ⟨g2, x3, y2⟩, ⟨g3, x4, y3⟩, ⟨g4, x5, y4⟩, ⟨cc, x6, y6⟩, nn⟩ := T.D.1 t hk
      obtain ⟨tp, k1⟩ := T.C 18 (by decide) (by decide)
      obtain ⟨f1, k2, o1⟩ := T.C 19 (by decide) (by decide)
      obtain ⟨f2, k3, o2⟩ := T.C 20 (by decide) (by decide)
      obtain ⟨f3, k4, o3⟩ := T.C 21 (by decide) (by decide)
      obtain ⟨f4, k5, o4⟩ := T.C 22 (by decide) (by decide)
      obtain ⟨c2, k6, o6⟩ := T.C 23 (by decide) (by decide)
      refine pm_R_cv pm_M60 (pc_q := 33) (a := 17) (ra := [.ref t]) (rest := []) (ls_q := [.ref 17, .ref t]) rfl rfl (Or.inl rfl) pm_M58 T.e17 rfl (by decide) (T.lt (by decide)) rfl rfl (Nat.le_of_ble_eq_true rfl) rfl rfl ?_
      have nd : ∀ x, ck x ≠ 0 → x < 17 ∨ 17 + 6 < x := fun x hx => by have := G.1 x hx; omega
      refine cl_c58 (d := d) (a := 17) (b := t) (by decide) (by omega) (by omega) l6 (by omega) ⟨rfl, rfl, fun _ _ => rfl, T.e17, k1, k2, k3, k4, k5, k6⟩ et x1 x2 x3 x4 x5 x6 (fun i x hx => ?_) (fun i x hx => ?_) (fun i x hx => ?_) (fun i x hx => ?_) (fun h_q P => ?_)
      · have z := y1 i x hx; obtain ⟨w1, w2, w3⟩ := cl_txt1 G T z; exact ⟨w1, w2, w3, nd x (by rw [z]; decide)⟩
      · have z := y2 i x hx; obtain ⟨w1, w2, w3⟩ := cl_txt2 G T z; exact ⟨w1, w2, w3, nd x (by rw [z]; decide)⟩
      · have z := y3 i x hx; obtain ⟨w1, w2, w3⟩ := cl_txt3 G T z; exact ⟨w1, w2, w3, nd x (by rw [z]; decide)⟩
      · have z := y4 i x hx; obtain ⟨w1, w2, w3⟩ := cl_txt4 G T z; exact ⟨w1, w2, w3, nd x (by rw [z]; decide)⟩
      · obtain ⟨p1, p2, p3, p4, z1, z2, z3, z4, z5, z6⟩ := P
        have hF : ∀ x, (x < 17 ∨ 23 < x) → h_q.2.2 x = h.2.2 x := p3
        have T' : cl_T ck E (upd (upd (upd m 0 v1) 1 v2) 2 v3) o h_q := by
          refine ⟨by omega, by rw [hF 16 (by omega)]; exact T.e16, p4, by rw [hF 25 (by omega)]; exact T.e25, by rw [hF 30 (by omega)]; exact T.e30, by rw [hF 31 (by omega)]; exact T.e31, by rw [hF 33 (by omega)]; exact T.e33, fun k => ?_, fun a a1 a2 => ?_, ((nn.fn x2 x3 x4 x5 x6).cp y6).back z2 z3 z4 z5 z6, fun a ha => by rw [p1]; exact T.2.2.2.2.2.2.2.2.2.2.1 a ha, fun a a1 a2 => by have := G.1 a (by omega); rw [hF a (by omega)]; exact T.2.2.2.2.2.2.2.2.2.2.2.1 a a1 a2, cl_D.low G T.D (fun b hb => hF b (by omega)), T.oo, fun a ha => by rw [hF a (by omega)]; exact T.old ha⟩
          · by_cases e0 : k = 2
            · subst e0; exact b3
            · by_cases e1 : k = 1
              · subst e1; exact b2
              · by_cases e2 : k = 0
                · subst e2; exact b1
                · have : upd (upd (upd m 0 v1) 1 v2) 2 v3 k = m k := by unfold upd; rw [if_neg e0, if_neg e1, if_neg e2]
                  rw [this]; exact T.B k
          · by_cases r : a < 18 ∨ 23 < a
            · by_cases e7 : a = 17
              · subst e7; exact trivial
              · rw [hF a (by omega)]; exact T.C a a1 a2
            · rcases (show a = 18 ∨ a = 19 ∨ a = 20 ∨ a = 21 ∨ a = 22 ∨ a = 23 by omega) with w | w | w | w | w | w <;> subst w
              · exact ⟨_, z1⟩
              · exact ⟨_, z2, (o1.upo (y1 0)).upo (y1 1)⟩
              · exact ⟨_, z3, ((o2.upo (y2 0)).upo (y2 1)).upo (y2 2)⟩
              · exact ⟨_, z4, (o3.upo (y3 0)).upo (y3 1)⟩
              · exact ⟨_, z5, (o4.upo (y4 0)).upo (y4 1)⟩
              · exact ⟨_, z6, cl_cpB o6 y6⟩
        show pm_R _ 60 33 [.ref 16, .int a0] [] _ _
        refine pm_R_op pm_M60 (pc_q := 34) (st_q := [.int 1]) rfl rfl rfl ?_
        refine pm_R_ret pm_M60 (r := some (.int 1)) rfl rfl (K1 t v1 v2 v3 _ h_q c0 c3' hs et rfl T' ⟨h72, by omega, by omega, by omega, fun a a1 a2 _ => hF a ?_⟩ (fun k hk => ?_) hF)
        · rcases Nat.lt_or_ge a 17 with w | w
          · exact Or.inl w
          · rcases Nat.lt_or_ge 23 a with y | y
            · exact Or.inr y
            · exact absurd (show a ∈ [17, 18, 19, 20, 21, 22, 23] by rcases (show a = 17 ∨ a = 18 ∨ a = 19 ∨ a = 20 ∨ a = 21 ∨ a = 22 ∨ a = 23 by omega) with w | w | w | w | w | w | w <;> (subst w; decide)) a2
        · have e0 : k ≠ 0 := fun z => hk (by rw [z]; decide)
          have e1 : k ≠ 1 := fun z => hk (by rw [z]; decide)
          have e2 : k ≠ 2 := fun z => hk (by rw [z]; decide)
          unfold upd; rw [if_neg e2, if_neg e1, if_neg e0]
end
end
section
/-! EXACT RUNS: what a run that comes back has done, told of a view of the heap: numbers, longs, references by cell and place, lengths, how many cells -/
abbrev ex_S : Type := (Nat → Nat → Int32) × (Nat → Nat → Int64) × (Nat → Nat → Option Nat) × (Nat → Nat) × Nat
def ex_i (v : Option Value) : Int32 := match v with | some (.int x) => x | _ => 0
def ex_l (v : Option Value) : Int64 := match v with | some (.long x) => x | _ => 0
def ex_r (v : Option Value) : Option Nat := match v with | some (.ref a) => some a | _ => none
def ex_eX (e : pm_E) (k : Nat) : Int32 := match e with | .inl (_, _, .inl f) => f k | .inl _ => 0 | .inr (_, fs) => ex_i fs[k]?
def ex_eY (e : pm_E) (k : Nat) : Int64 := match e with | .inl (_, _, .inr (.inl f)) => f k | .inl _ => 0 | .inr (_, fs) => ex_l fs[k]?
def ex_eZ (e : pm_E) (k : Nat) : Option Nat := match e with | .inl (_, _, .inr (.inr (.inr (.inr f)))) => f k | .inl _ => none | .inr (_, fs) => ex_r fs[k]?
def ex_eL (e : pm_E) : Nat := match e with | .inl (_, n, _) => n | .inr _ => 0
def ex_V (h : pm_H) : ex_S := (fun a => ex_eX (h.2.2 a), fun a => ex_eY (h.2.2 a), fun a => ex_eZ (h.2.2 a), fun a => ex_eL (h.2.2 a), h.1)
def ex_sx (S : ex_S) (a k : Nat) (v : Int32) : ex_S := (fun b j => if b = a ∧ j = k then v else S.1 b j, S.2)
def ex_sy (S : ex_S) (a k : Nat) (v : Int64) : ex_S := (S.1, fun b j => if b = a ∧ j = k then v else S.2.1 b j, S.2.2)
def ex_sz (S : ex_S) (a k : Nat) (v : Option Nat) : ex_S := (S.1, S.2.1, fun b j => if b = a ∧ j = k then v else S.2.2.1 b j, S.2.2.2)
/-- n numbers of cell a from sp on come into cell b from dp on -/
def ex_cp (S : ex_S) (a sp b dp n : Nat) : ex_S := (fun c j => if c = b ∧ dp ≤ j ∧ j < dp + n then S.1 a (sp + (j - dp)) else S.1 c j, S.2)
/-- a new cell: all its numbers 0, no references -/
def ex_new (S : ex_S) (n : Nat) : ex_S := (fun b j => if b = S.2.2.2.2 then 0 else S.1 b j, fun b j => if b = S.2.2.2.2 then 0 else S.2.1 b j, fun b j => if b = S.2.2.2.2 then none else S.2.2.1 b j, fun b => if b = S.2.2.2.2 then n else S.2.2.2.1 b, S.2.2.2.2 + 1)
theorem ex_set_at (h : pm_H) (a b : Nat) (e : pm_E) : (pm_set h a e).2.2 b = if b = a then e else h.2.2 b := rfl
theorem ex_V_set {h : pm_H} {a : Nat} {e : pm_E} {S : ex_S} (hX : ∀ b j, S.1 b j = if b = a then ex_eX e j else ex_eX (h.2.2 b) j) (hY : ∀ b j, S.2.1 b j = if b = a then ex_eY e j else ex_eY (h.2.2 b) j) (hZ : ∀ b j, S.2.2.1 b j = if b = a then ex_eZ e j else ex_eZ (h.2.2 b) j) (hL : ∀ b, S.2.2.2.1 b = if b = a then ex_eL e else ex_eL (h.2.2 b)) (ht : S.2.2.2.2 = h.1) : ex_V (pm_set h a e) = S := by
  refine Prod.ext ?_ (Prod.ext ?_ (Prod.ext ?_ (Prod.ext ?_ ht.symm)))
  · funext b j
    show ex_eX ((pm_set h a e).2.2 b) j = S.1 b j
    rw [hX, ex_set_at]; split <;> rfl
  · funext b j
    show ex_eY ((pm_set h a e).2.2 b) j = S.2.1 b j
    rw [hY, ex_set_at]; split <;> rfl
  · funext b j
    show ex_eZ ((pm_set h a e).2.2 b) j = S.2.2.1 b j
    rw [hZ, ex_set_at]; split <;> rfl
  · funext b
    show ex_eL ((pm_set h a e).2.2 b) = S.2.2.2.1 b
    rw [hL, ex_set_at]; split <;> rfl
theorem ex_V_sx {h : pm_H} {a k : Nat} {e : pm_E} {v : Int32} (hX : ∀ j, ex_eX e j = if j = k then v else ex_eX (h.2.2 a) j) (hY : ∀ j, ex_eY e j = ex_eY (h.2.2 a) j) (hZ : ∀ j, ex_eZ e j = ex_eZ (h.2.2 a) j) (hL : ex_eL e = ex_eL (h.2.2 a)) : ex_V (pm_set h a e) = ex_sx (ex_V h) a k v := by
  refine ex_V_set (fun b j => ?_) (fun b j => ?_) (fun b j => ?_) (fun b => ?_) rfl
  · show (if b = a ∧ j = k then v else ex_eX (h.2.2 b) j) = _
    by_cases hb : b = a
    · subst hb; rw [if_pos rfl, hX]; by_cases hj : j = k
      · rw [if_pos ⟨rfl, hj⟩, if_pos hj]
      · rw [if_neg (fun z => hj z.2), if_neg hj]
    · rw [if_neg hb, if_neg (fun z => hb z.1)]
  · show ex_eY (h.2.2 b) j = _
    by_cases hb : b = a
    · subst hb; rw [if_pos rfl, hY]
    · rw [if_neg hb]
  · show ex_eZ (h.2.2 b) j = _
    by_cases hb : b = a
    · subst hb; rw [if_pos rfl, hZ]
    · rw [if_neg hb]
  · show ex_eL (h.2.2 b) = _
    by_cases hb : b = a
    · subst hb; rw [if_pos rfl, hL]
    · rw [if_neg hb]
theorem ex_V_sy {h : pm_H} {a k : Nat} {e : pm_E} {v : Int64} (hX : ∀ j, ex_eX e j = ex_eX (h.2.2 a) j) (hY : ∀ j, ex_eY e j = if j = k then v else ex_eY (h.2.2 a) j) (hZ : ∀ j, ex_eZ e j = ex_eZ (h.2.2 a) j) (hL : ex_eL e = ex_eL (h.2.2 a)) : ex_V (pm_set h a e) = ex_sy (ex_V h) a k v := by
  refine ex_V_set (fun b j => ?_) (fun b j => ?_) (fun b j => ?_) (fun b => ?_) rfl
  · show ex_eX (h.2.2 b) j = _
    by_cases hb : b = a
    · subst hb; rw [if_pos rfl, hX]
    · rw [if_neg hb]
  · show (if b = a ∧ j = k then v else ex_eY (h.2.2 b) j) = _
    by_cases hb : b = a
    · subst hb; rw [if_pos rfl, hY]; by_cases hj : j = k
      · rw [if_pos ⟨rfl, hj⟩, if_pos hj]
      · rw [if_neg (fun z => hj z.2), if_neg hj]
    · rw [if_neg hb, if_neg (fun z => hb z.1)]
  · show ex_eZ (h.2.2 b) j = _
    by_cases hb : b = a
    · subst hb; rw [if_pos rfl, hZ]
    · rw [if_neg hb]
  · show ex_eL (h.2.2 b) = _
    by_cases hb : b = a
    · subst hb; rw [if_pos rfl, hL]
    · rw [if_neg hb]
theorem ex_V_sz {h : pm_H} {a k : Nat} {e : pm_E} {v : Option Nat} (hX : ∀ j, ex_eX e j = ex_eX (h.2.2 a) j) (hY : ∀ j, ex_eY e j = ex_eY (h.2.2 a) j) (hZ : ∀ j, ex_eZ e j = if j = k then v else ex_eZ (h.2.2 a) j) (hL : ex_eL e = ex_eL (h.2.2 a)) : ex_V (pm_set h a e) = ex_sz (ex_V h) a k v := by
  refine ex_V_set (fun b j => ?_) (fun b j => ?_) (fun b j => ?_) (fun b => ?_) rfl
  · show ex_eX (h.2.2 b) j = _
    by_cases hb : b = a
    · subst hb; rw [if_pos rfl, hX]
    · rw [if_neg hb]
  · show ex_eY (h.2.2 b) j = _
    by_cases hb : b = a
    · subst hb; rw [if_pos rfl, hY]
    · rw [if_neg hb]
  · show (if b = a ∧ j = k then v else ex_eZ (h.2.2 b) j) = _
    by_cases hb : b = a
    · subst hb; rw [if_pos rfl, hZ]; by_cases hj : j = k
      · rw [if_pos ⟨rfl, hj⟩, if_pos hj]
      · rw [if_neg (fun z => hj z.2), if_neg hj]
    · rw [if_neg hb, if_neg (fun z => hb z.1)]
  · show ex_eL (h.2.2 b) = _
    by_cases hb : b = a
    · subst hb; rw [if_pos rfl, hL]
    · rw [if_neg hb]
theorem ex_V_push {h : pm_H} {e : pm_E} {s n : Nat} (hX : ∀ j, ex_eX e j = 0) (hY : ∀ j, ex_eY e j = 0) (hZ : ∀ j, ex_eZ e j = none) (hL : ex_eL e = n) : ex_V (pm_push h e s) = ex_new (ex_V h) n := by
  have q : ∀ b, (pm_push h e s).2.2 b = if b = h.1 then e else h.2.2 b := fun _ => rfl
  refine Prod.ext ?_ (Prod.ext ?_ (Prod.ext ?_ (Prod.ext ?_ rfl)))
  · funext b j
    show ex_eX ((pm_push h e s).2.2 b) j = if b = h.1 then 0 else ex_eX (h.2.2 b) j
    rw [q]; by_cases hb : b = h.1
    · rw [if_pos hb, if_pos hb, hX]
    · rw [if_neg hb, if_neg hb]
  · funext b j
    show ex_eY ((pm_push h e s).2.2 b) j = if b = h.1 then 0 else ex_eY (h.2.2 b) j
    rw [q]; by_cases hb : b = h.1
    · rw [if_pos hb, if_pos hb, hY]
    · rw [if_neg hb, if_neg hb]
  · funext b j
    show ex_eZ ((pm_push h e s).2.2 b) j = if b = h.1 then none else ex_eZ (h.2.2 b) j
    rw [q]; by_cases hb : b = h.1
    · rw [if_pos hb, if_pos hb, hZ]
    · rw [if_neg hb, if_neg hb]
  · funext b
    show ex_eL ((pm_push h e s).2.2 b) = if b = h.1 then n else ex_eL (h.2.2 b)
    rw [q]; by_cases hb : b = h.1
    · rw [if_pos hb, if_pos hb, hL]
    · rw [if_neg hb, if_neg hb]
/-- the sorts of fields: 0 a number, 1 a long, 2 a reference -/
def ex_kd (ty : FieldType) : Nat := match ty with | .int => 0 | .boolean => 0 | .long => 1 | .object _ => 2 | .array _ => 2 | _ => 3
def ex_kv (k : Nat) (v : Value) : Prop := match k with | 0 => ∃ x, v = .int x | 1 => ∃ x, v = .long x | 2 => ∃ o, v = va_rf o | _ => True
def ex_fts : List (List Nat) := [[0, 2], [0, 0, 2, 2, 2], [2], [2, 2, 2, 2, 2, 0, 0, 0, 0], [0, 2, 0, 2, 2, 2, 2, 0], [0, 2], [2, 0, 0, 2, 0, 2, 0, 2, 0, 0, 2], [2, 0, 0, 0, 0, 0], [2, 0, 0, 0, 2, 2, 2, 2, 2], [2, 2, 0, 0, 2, 2, 2], [2, 2, 2], [2, 2, 2, 2, 2, 2, 2, 2, 2, 2], [0, 2, 2, 2, 2, 2, 2, 2, 2, 2, 0, 0, 0, 0, 0, 1, 0, 0, 0, 2, 2, 0, 0, 0, 0, 2, 0, 0, 2, 2, 2, 0, 2, 2, 2, 2, 2, 2, 2, 2, 2, 2, 0, 0, 0, 2, 2, 0, 2, 0, 0, 2, 2]]
def ex_ft (ci k : Nat) : Nat := (ex_fts.getD ci []).getD k 3
theorem ex_fits {ty : FieldType} {v : Value} (h : pm_fits ty v = true) : ex_kv (ex_kd ty) v := by
  unfold pm_fits at h
  split at h
  · exact ⟨_, rfl⟩
  · exact ⟨_, rfl⟩
  · exact ⟨_, rfl⟩
  · exact ⟨none, rfl⟩
  · exact ⟨some _, rfl⟩
  · exact ⟨none, rfl⟩
  · exact ⟨some _, rfl⟩
  · cases h
set_option maxRecDepth 100000 in
theorem ex_ft_all : (List.range 13).all (fun ci => (List.range 53).all (fun k => match pm_cl[ci]? with | some q => decide (q.2.2 ≤ k) || decide (ex_ft ci k = ex_kd (pm_ty q.2.1 k)) | none => true)) = true := by decide +kernel
theorem ex_ft_out {ci k : Nat} (h : ∀ q : vw_C, pm_cl[ci]? = some q → q.2.2 ≤ k) (hc : ci < 13) : ex_ft ci k = 3 := by
  have e : ∀ ci, ci < 13 → ∃ q : vw_C, pm_cl[ci]? = some q ∧ (ex_fts.getD ci []).length = q.2.2 := fun ci hc => by
    match ci, hc with
    | 0, _ => exact ⟨_, rfl, rfl⟩
    | 1, _ => exact ⟨_, rfl, rfl⟩
    | 2, _ => exact ⟨_, rfl, rfl⟩
    | 3, _ => exact ⟨_, rfl, rfl⟩
    | 4, _ => exact ⟨_, rfl, rfl⟩
    | 5, _ => exact ⟨_, rfl, rfl⟩
    | 6, _ => exact ⟨_, rfl, rfl⟩
    | 7, _ => exact ⟨_, rfl, rfl⟩
    | 8, _ => exact ⟨_, rfl, rfl⟩
    | 9, _ => exact ⟨_, rfl, rfl⟩
    | 10, _ => exact ⟨_, rfl, rfl⟩
    | 11, _ => exact ⟨_, rfl, rfl⟩
    | 12, _ => exact ⟨_, rfl, rfl⟩
    | n + 13, h => exact absurd h (by omega)
  obtain ⟨q, e1, e2⟩ := e ci hc
  have := h q e1
  unfold ex_ft
  rw [List.getD_eq_getElem?_getD, List.getElem?_eq_none (by omega)]; rfl
theorem ex_cl13 {ci : Nat} {q : vw_C} (h : pm_cl[ci]? = some q) : ci < 13 := by
  have := (List.getElem?_eq_some_iff.mp h).1
  exact this
theorem ex_fit {ci k : Nat} {q : vw_C} {v : Value} (hq : pm_cl[ci]? = some q) (h : pm_fits (pm_ty q.2.1 k) v = true) : ex_kv (ex_ft ci k) v := by
  have hc := ex_cl13 hq
  by_cases hk : q.2.2 ≤ k
  · rw [ex_ft_out (fun q' e => by rw [hq] at e; cases e; exact hk) hc]; trivial
  · have hk53 : k < 53 := by
      have : q.2.2 ≤ 53 := by
        match ci, hc, hq with
        | 0, _, hq => cases hq; decide
        | 1, _, hq => cases hq; decide
        | 2, _, hq => cases hq; decide
        | 3, _, hq => cases hq; decide
        | 4, _, hq => cases hq; decide
        | 5, _, hq => cases hq; decide
        | 6, _, hq => cases hq; decide
        | 7, _, hq => cases hq; decide
        | 8, _, hq => cases hq; decide
        | 9, _, hq => cases hq; decide
        | 10, _, hq => cases hq; decide
        | 11, _, hq => cases hq; decide
        | 12, _, hq => cases hq; decide
        | n + 13, h, _ => exact absurd h (by omega)
      omega
    have a1 := List.all_eq_true.mp ex_ft_all ci (List.mem_range.mpr hc)
    have a2 := List.all_eq_true.mp a1 k (List.mem_range.mpr hk53)
    rw [hq] at a2
    simp only [Bool.or_eq_true, decide_eq_true_eq] at a2
    rcases a2 with a2 | a2
    · exact absurd a2 hk
    · rw [a2]; exact ex_fits h
/-- the fields of all objects are of their sorts -/
def ex_W (h : pm_H) : Prop := ∀ a ci fs, h.2.2 a = .inr (ci, fs) → 16 ≤ a → a < h.1 → ∀ k v, fs[k]? = some v → ex_kv (ex_ft ci k) v
/-- fields that stay what they are: cell, class, field, the cell that it names -/
def ex_tab : List (Nat × Nat × Nat × Nat) := [(16, 11, 0, 17), (16, 11, 1, 24), (16, 11, 2, 25), (16, 11, 3, 31), (16, 11, 4, 33), (16, 11, 6, 37), (16, 11, 7, 38), (16, 11, 8, 39), (16, 11, 9, 40), (17, 8, 0, 18), (17, 8, 4, 19), (17, 8, 5, 20), (17, 8, 6, 21), (17, 8, 7, 22), (17, 8, 8, 23), (25, 6, 0, 30), (25, 6, 3, 26), (25, 6, 5, 27), (25, 6, 7, 28), (25, 6, 10, 29), (30, 7, 0, 18), (31, 2, 0, 32), (33, 9, 0, 34), (33, 9, 1, 35), (33, 9, 4, 36), (41, 12, 1, 42), (41, 12, 2, 43), (41, 12, 3, 44), (41, 12, 4, 45), (41, 12, 5, 46), (41, 12, 6, 47), (41, 12, 7, 48), (41, 12, 8, 49), (41, 12, 9, 50), (41, 12, 19, 51), (41, 12, 20, 52), (41, 12, 25, 53), (41, 12, 28, 54), (41, 12, 29, 55), (41, 12, 30, 56), (41, 12, 32, 57), (41, 12, 33, 58), (41, 12, 34, 59), (41, 12, 35, 60), (41, 12, 36, 61), (41, 12, 37, 62), (41, 12, 38, 63), (41, 12, 39, 64), (41, 12, 40, 65), (41, 12, 41, 66), (41, 12, 45, 67), (41, 12, 46, 68), (41, 12, 48, 69), (41, 12, 51, 70), (41, 12, 52, 71)]
/-- arrays of bytes (2) and of booleans (3) -/
def ex_bts : List (Nat × Nat) := [(18, 2), (42, 2), (71, 3)]
def ex_K (h : pm_H) : Prop := (∀ a, 1 ≤ a → a < 15 → h.2.2 a = pm_f0 false 0 (fun _ => 0) a) ∧ 72 ≤ h.1 ∧ (∀ x ∈ ex_tab, ∃ fs, h.2.2 x.1 = .inr (x.2.1, fs) ∧ fs[x.2.2.1]? = some (.ref x.2.2.2)) ∧ ∀ x ∈ ex_bts, ∃ n y, h.2.2 x.1 = .inl (x.2, n, y)
theorem ex_tab_lt : ∀ x ∈ ex_tab, 16 ≤ x.1 ∧ x.1 < 72 := by decide
theorem ex_bts_lt : ∀ x ∈ ex_bts, 16 ≤ x.1 ∧ x.1 < 72 := by decide
/-- how an instruction changes the heap -/
def ex_ch (ini : Bool) (c : Nat) (i : Instr) (h h_q : pm_H) : Prop := h_q = h ∨ (∃ a t n x y, 16 ≤ a ∧ h.2.2 a = .inl (t, n, x) ∧ h_q = pm_set h a (.inl (t, n, y))) ∨ (∃ x k, h_q = pm_push h (.inl x) k) ∨ (∃ ci q, pm_cl[ci]? = some q ∧ h_q = pm_push h (.inr (ci, (List.range q.2.2).map (fun k => defaultValue (pm_ty q.2.1 k)))) q.2.2) ∨ (∃ ix a v, i = .putfield ix ∧ pm_pf ini c ix h a v = some h_q)
theorem ex_hb_ch {ini : Bool} {c : Nat} {i : Instr} {st : List Value} {h : pm_H} {z : List Value × pm_H} (hz : pm_hb ini c i st h = some z) : ex_ch ini c i h z.2 := by
  unfold pm_hb at hz
  split at hz
  · obtain ⟨v, _, e⟩ := Option.map_eq_some_iff.mp hz; subst e; exact Or.inl rfl
  · obtain ⟨h_q, e1, e⟩ := Option.map_eq_some_iff.mp hz; subst e; exact Or.inr (Or.inr (Or.inr (Or.inr ⟨_, _, _, rfl, e1⟩)))
  · obtain ⟨v, _, e⟩ := Option.map_eq_some_iff.mp hz; subst e; exact Or.inl rfl
  · obtain ⟨v, _, e⟩ := Option.map_eq_some_iff.mp hz; subst e; exact Or.inl rfl
  · obtain ⟨v, _, e⟩ := Option.map_eq_some_iff.mp hz; subst e; exact Or.inl rfl
  · obtain ⟨v, _, e⟩ := Option.map_eq_some_iff.mp hz; subst e; exact Or.inl rfl
  · split at hz
    · split at hz
      · cases hz; exact Or.inl rfl
      · cases hz
    · split at hz
      · cases hz; exact Or.inl rfl
      · cases hz
    · cases hz
  · split at hz
    · split at hz
      · cases hz; exact Or.inl rfl
      · cases hz
    · cases hz
  · split at hz
    · split at hz
      · cases hz; exact Or.inl rfl
      · cases hz
    · split at hz
      · cases hz; exact Or.inl rfl
      · cases hz
    · cases hz
  · split at hz
    · split at hz
      · cases hz; exact Or.inl rfl
      · cases hz
    · cases hz
  · split at hz
    · split at hz
      · cases hz; exact Or.inl rfl
      · cases hz
    · cases hz
  · split at hz
    · rename_i e
      split at hz
      · rename_i g; cases hz; exact Or.inr (Or.inl ⟨_, _, _, _, _, g.1, e, rfl⟩)
      · cases hz
    · cases hz
  · split at hz
    · rename_i e
      split at hz
      · rename_i g; cases hz; exact Or.inr (Or.inl ⟨_, _, _, _, _, g.1, e, rfl⟩)
      · cases hz
    · rename_i e
      split at hz
      · rename_i g; cases hz; exact Or.inr (Or.inl ⟨_, _, _, _, _, g.1, e, rfl⟩)
      · cases hz
    · cases hz
  · split at hz
    · rename_i e
      split at hz
      · rename_i g; cases hz; exact Or.inr (Or.inl ⟨_, _, _, _, _, g.1, e, rfl⟩)
      · cases hz
    · cases hz
  · split at hz
    · rename_i e
      split at hz
      · rename_i g
        split at hz
        · cases hz; exact Or.inr (Or.inl ⟨_, _, _, _, _, g.1, e, rfl⟩)
        · split at hz
          · split at hz
            · cases hz; exact Or.inr (Or.inl ⟨_, _, _, _, _, g.1, e, rfl⟩)
            · cases hz
          · cases hz
        · cases hz
      · cases hz
    · cases hz
  · obtain ⟨k, _, e⟩ := Option.bind_eq_some_iff.mp hz
    split at e
    · cases e; exact Or.inr (Or.inr (Or.inl ⟨_, _, rfl⟩))
    · cases e
  · obtain ⟨ci, _, e⟩ := Option.bind_eq_some_iff.mp hz
    obtain ⟨k, _, e⟩ := Option.bind_eq_some_iff.mp e
    split at e
    · cases e; exact Or.inr (Or.inr (Or.inl ⟨_, _, rfl⟩))
    · cases e
  · obtain ⟨ci, _, e⟩ := Option.bind_eq_some_iff.mp hz
    obtain ⟨q, e1, e⟩ := Option.map_eq_some_iff.mp e
    cases e; exact Or.inr (Or.inr (Or.inr (Or.inl ⟨_, _, e1, rfl⟩)))
  · obtain ⟨ci, _, e⟩ := Option.bind_eq_some_iff.mp hz
    split at e
    · split at e
      · cases e; exact Or.inl rfl
      · cases e
    · cases e
  · obtain ⟨ci, _, e⟩ := Option.bind_eq_some_iff.mp hz
    split at e
    · cases e; exact Or.inl rfl
    · cases e
  · obtain ⟨ci, _, e⟩ := Option.bind_eq_some_iff.mp hz
    split at e
    · split at e
      · cases e; exact Or.inr (Or.inr (Or.inl ⟨_, _, rfl⟩))
      · cases e
    · cases e
  · obtain ⟨ci, _, e⟩ := Option.bind_eq_some_iff.mp hz
    split at e
    · split at e
      · rename_i eb
        split at e
        · rename_i g; cases e; exact Or.inr (Or.inl ⟨_, _, _, _, _, g.2.2.1, eb, rfl⟩)
        · cases e
      · rename_i eb
        split at e
        · rename_i g; cases e; exact Or.inr (Or.inl ⟨_, _, _, _, _, g.2.2.1, eb, rfl⟩)
        · cases e
      · cases e
    · split at e
      · cases e; exact Or.inl rfl
      · cases e
    · split at e
      · cases e; exact Or.inl rfl
      · cases e
    · split at e
      · cases e; exact Or.inl rfl
      · cases e
    · cases e
  · cases hz
theorem ex_pf {ini : Bool} {c ix a : Nat} {v : Value} {h h_q : pm_H} (hz : pm_pf ini c ix h a v = some h_q) : ∃ ci k nb fs q, pm_at pm_FL c ix = some (ci, k, nb) ∧ pm_cl[ci]? = some q ∧ h.2.2 a = .inr (ci, fs) ∧ 16 ≤ a ∧ a < h.1 ∧ k < fs.length ∧ pm_fits (pm_ty q.2.1 k) v = true ∧ h_q = pm_set h a (.inr (ci, fs.set k v)) := by
  unfold pm_pf at hz
  obtain ⟨⟨ci, k, nb⟩, e1, e⟩ := Option.bind_eq_some_iff.mp hz
  obtain ⟨q, e2, e⟩ := Option.bind_eq_some_iff.mp e
  split at e
  · rename_i ci' fs e3
    split at e
    · rename_i g
      obtain ⟨g1, g2, g3, g4, g5, _⟩ := g
      dsimp only at g3
      subst g3
      cases e
      exact ⟨_, _, _, _, _, e1, e2, e3, g1, g2, g4, g5, rfl⟩
    · cases e
  · cases e
theorem ex_dflt (ci : Nat) (q : vw_C) (hq : pm_cl[ci]? = some q) (k : Nat) (v : Value) (hv : ((List.range q.2.2).map (fun k => defaultValue (pm_ty q.2.1 k)))[k]? = some v) : ex_kv (ex_ft ci k) v := by
  rw [List.getElem?_map] at hv
  obtain ⟨k_q, e1, e2⟩ := Option.map_eq_some_iff.mp hv
  obtain ⟨h1, h2⟩ := List.getElem?_eq_some_iff.mp e1
  rw [List.getElem_range] at h2
  subst h2
  subst e2
  have hk : k < q.2.2 := by simpa using h1
  have hc := ex_cl13 hq
  have hk53 : k < 53 := by
    have : q.2.2 ≤ 53 := by
      match ci, hc, hq with
      | 0, _, hq => cases hq; decide
      | 1, _, hq => cases hq; decide
      | 2, _, hq => cases hq; decide
      | 3, _, hq => cases hq; decide
      | 4, _, hq => cases hq; decide
      | 5, _, hq => cases hq; decide
      | 6, _, hq => cases hq; decide
      | 7, _, hq => cases hq; decide
      | 8, _, hq => cases hq; decide
      | 9, _, hq => cases hq; decide
      | 10, _, hq => cases hq; decide
      | 11, _, hq => cases hq; decide
      | 12, _, hq => cases hq; decide
      | n + 13, h, _ => exact absurd h (by omega)
    omega
  have a1 := List.all_eq_true.mp ex_ft_all ci (List.mem_range.mpr hc)
  have a2 := List.all_eq_true.mp a1 k (List.mem_range.mpr hk53)
  rw [hq] at a2
  simp only [Bool.or_eq_true, decide_eq_true_eq] at a2
  rcases a2 with a2 | a2
  · exact absurd a2 (by omega)
  · rw [a2]
    generalize pm_ty q.2.1 k = ty
    cases ty <;> first | exact ⟨_, rfl⟩ | exact ⟨none, rfl⟩ | trivial
theorem ex_W_ch {ini : Bool} {c : Nat} {i : Instr} {h h_q : pm_H} (hz : ex_ch ini c i h h_q) (W : ex_W h) : ex_W h_q := by
  rcases hz with e | ⟨a, t0, n0, x, y, g1, g2, e⟩ | ⟨x, k, e⟩ | ⟨ci, q, g, e⟩ | ⟨ix, a, v, g, e⟩
  · rw [e]; exact W
  · subst e
    intro b ci fs hb b1 b2 k v hv
    rw [ex_set_at] at hb
    by_cases hba : b = a
    · rw [if_pos hba] at hb; cases hb
    · rw [if_neg hba] at hb; exact W b ci fs hb b1 b2 k v hv
  · subst e
    intro b ci fs hb b1 b2 k_q v hv
    have q : (pm_push h (.inl x) k).2.2 b = if b = h.1 then .inl x else h.2.2 b := rfl
    rw [q] at hb
    by_cases hba : b = h.1
    · rw [if_pos hba] at hb; cases hb
    · rw [if_neg hba] at hb
      have b3 : b < h.1 + 1 := b2
      exact W b ci fs hb b1 (by omega) k_q v hv
  · subst e
    intro b ci' fs hb b1 b2 k_q v hv
    have q0 : ∀ e s, (pm_push h e s).2.2 b = if b = h.1 then e else h.2.2 b := fun _ _ => rfl
    rw [q0] at hb
    by_cases hba : b = h.1
    · rw [if_pos hba] at hb
      injection hb with hb
      injection hb with hb1 hb2
      subst hb1; subst hb2
      exact ex_dflt _ q g k_q v hv
    · rw [if_neg hba] at hb
      have b3 : b < h.1 + 1 := b2
      exact W b ci' fs hb b1 (by omega) k_q v hv
  · obtain ⟨ci, k, nb, fs, q, e1, e2, e3, e4, e5, e6, e7, e8⟩ := ex_pf e
    subst e8
    intro b ci' fs_q hb b1 b2 k_q v' hv
    rw [ex_set_at] at hb
    by_cases hba : b = a
    · rw [if_pos hba] at hb
      injection hb with hb
      injection hb with hb1 hb2
      subst hb1; subst hb2
      by_cases hk : k_q = k
      · subst hk
        rw [List.getElem?_set_self e6] at hv
        cases hv
        exact ex_fit e2 e7
      · rw [List.getElem?_set_ne (fun z => hk z.symm)] at hv
        exact W a ci fs e3 e4 e5 k_q v' hv
    · rw [if_neg hba] at hb; exact W b ci' fs_q hb b1 b2 k_q v' hv
/-- no field of the table is written by this instruction -/
def ex_free (c ix : Nat) : Bool := match pm_at pm_FL c ix with | some x => ex_tab.all (fun y => !(Nat.beq y.2.1 x.1 && Nat.beq y.2.2.1 x.2.1)) | none => true
theorem ex_K_ch {ini : Bool} {c : Nat} {i : Instr} {h h_q : pm_H} (hz : ex_ch ini c i h h_q) (K : ex_K h) (hp : ∀ ix, i = .putfield ix → ex_free c ix = true) : ex_K h_q := by
  obtain ⟨k1, k2, k3, k4⟩ := K
  rcases hz with e | ⟨a, t0, n0, x, y, g1, g2, e⟩ | ⟨x, k, e⟩ | ⟨ci, q, g, e⟩ | ⟨ix, a, v, g, e⟩
  · rw [e]; exact ⟨k1, k2, k3, k4⟩
  · subst e
    refine ⟨fun b b1 b2 => by rw [ex_set_at, if_neg (by omega)]; exact k1 b b1 b2, k2, fun t ht => ?_, fun t ht => ?_⟩
    · obtain ⟨fs, f1, f2⟩ := k3 t ht
      refine ⟨fs, ?_, f2⟩
      rw [ex_set_at]
      by_cases hb : t.1 = a
      · rw [hb] at f1; rw [g2] at f1; cases f1
      · rw [if_neg hb]; exact f1
    · obtain ⟨n, w, f1⟩ := k4 t ht
      rw [ex_set_at]
      by_cases hb : t.1 = a
      · rw [if_pos hb]
        rw [hb, g2] at f1
        injection f1 with f1
        injection f1 with f1 f2
        exact ⟨n0, y, by rw [f1]⟩
      · rw [if_neg hb]; exact ⟨n, w, f1⟩
  · subst e
    have q : ∀ b, (pm_push h (.inl x) k).2.2 b = if b = h.1 then .inl x else h.2.2 b := fun _ => rfl
    refine ⟨fun b b1 b2 => by rw [q, if_neg (by omega)]; exact k1 b b1 b2, Nat.le_succ_of_le k2, fun t ht => ?_, fun t ht => ?_⟩
    · obtain ⟨fs, f1, f2⟩ := k3 t ht
      have := ex_tab_lt t ht
      exact ⟨fs, by rw [q, if_neg (by omega)]; exact f1, f2⟩
    · obtain ⟨n, w, f1⟩ := k4 t ht
      have := ex_bts_lt t ht
      exact ⟨n, w, by rw [q, if_neg (by omega)]; exact f1⟩
  · subst e
    have q0 : ∀ e s b, (pm_push h e s).2.2 b = if b = h.1 then e else h.2.2 b := fun _ _ _ => rfl
    refine ⟨fun b b1 b2 => by rw [q0, if_neg (by omega)]; exact k1 b b1 b2, Nat.le_succ_of_le k2, fun t ht => ?_, fun t ht => ?_⟩
    · obtain ⟨fs, f1, f2⟩ := k3 t ht
      have := ex_tab_lt t ht
      exact ⟨fs, by rw [q0, if_neg (by omega)]; exact f1, f2⟩
    · obtain ⟨n, w, f1⟩ := k4 t ht
      have := ex_bts_lt t ht
      exact ⟨n, w, by rw [q0, if_neg (by omega)]; exact f1⟩
  · obtain ⟨ci, k, nb, fs, q, e1, e2, e3, e4, e5, e6, e7, e8⟩ := ex_pf e
    subst e8
    refine ⟨fun b b1 b2 => by rw [ex_set_at, if_neg (by omega)]; exact k1 b b1 b2, k2, fun t ht => ?_, fun t ht => ?_⟩
    · obtain ⟨fs_q, f1, f2⟩ := k3 t ht
      rw [ex_set_at]
      by_cases hb : t.1 = a
      · rw [if_pos hb]
        rw [hb, e3] at f1
        injection f1 with f1
        injection f1 with f3 f4
        subst f4
        have fr := hp ix g
        unfold ex_free at fr
        rw [e1] at fr
        have := List.all_eq_true.mp fr t ht
        refine ⟨_, by rw [f3], ?_⟩
        rw [List.getElem?_set_ne ?_]
        · exact f2
        · intro z
          rw [← f3, ← z] at this
          simp at this
      · rw [if_neg hb]; exact ⟨fs_q, f1, f2⟩
    · obtain ⟨n, w, f1⟩ := k4 t ht
      rw [ex_set_at]
      by_cases hb : t.1 = a
      · rw [hb, e3] at f1; cases f1
      · rw [if_neg hb]; exact ⟨n, w, f1⟩
end
section
/-! ROWS of exact runs -/
def ex_P (N d mid pc : Nat) (ls st : List Value) (S : ex_S) (Q : Option Value → ex_S → Prop) : Prop := ∀ h, ex_V h = S → ex_W h → ex_K h → ∀ n, n ≤ N → ∀ x, pm_run n d mid pc ls st h = some x → ex_W x.2 ∧ ex_K x.2 ∧ Q x.1 (ex_V x.2)
section EXR
variable {N d mid pc pc_q : Nat} {ls st : List Value} {S : ex_S} {Q : Option Value → ex_S → Prop} {q : pm_M} {l : List (Nat × Instr × Nat)} {i : Instr} {L : Nat}
theorem ex_zero : ex_P 0 d mid pc ls st S Q := by
  intro h _ _ _ n hn x hx
  have : n = 0 := by omega
  subst this; cases hx
theorem ex_P.weak (k : ex_P (N + 1) d mid pc ls st S Q) : ex_P N d mid pc ls st S Q := fun h a b c n hn => k h a b c n (by omega)
theorem ex_P.mono {Q' : Option Value → ex_S → Prop} (k : ex_P N d mid pc ls st S Q) (hQ : ∀ r S_q, Q r S_q → Q' r S_q) : ex_P N d mid pc ls st S Q' := fun h a b c n hn x hx => have z := k h a b c n hn x hx; ⟨z.1, z.2.1, hQ _ _ z.2.2⟩
theorem ex_step (hM : pm_Mt mid q l) (hf : pm_find l pc = some (i, L)) (hr : pm_ret q.2.2.2.1 i st = none) (hc : ∀ h, pm_call q.2.2.2.2 i st h = none) (k : ∀ h, ex_V h = S → ex_W h → ex_K h → ∀ z, pm_step (decide (q.1.name = "<init>")) q.2.2.2.2 i pc ls st h = some z → ex_W z.2.2.2 ∧ ex_K z.2.2.2 ∧ ex_P N d mid z.1 z.2.1 z.2.2.1 (ex_V z.2.2.2) Q) : ex_P (N + 1) d mid pc ls st S Q := by
  intro h eV W K n hn x hx
  match n, hn, hx with
  | 0, _, hx => cases hx
  | n + 1, hn, hx =>
    unfold pm_run at hx
    rw [hM.1, hM.code hf] at hx
    dsimp only at hx
    rw [hr] at hx
    dsimp only at hx
    rw [hc] at hx
    dsimp only at hx
    split at hx
    · rename_i pc_q ls_q st_q h_q hs
      obtain ⟨W', K', P'⟩ := k h eV W K _ hs
      exact P' h_q rfl W' K' n (by omega) x hx
    · cases hx
theorem ex_ret (hM : pm_Mt mid q l) (hf : pm_find l pc = some (i, L)) {r : Option Value} (hr : pm_ret q.2.2.2.1 i st = some r) (k : Q r S) : ex_P N d mid pc ls st S Q := by
  intro h eV W K n hn x hx
  match n, hn, hx with
  | 0, _, hx => cases hx
  | n + 1, hn, hx =>
    unfold pm_run at hx
    rw [hM.1, hM.code hf] at hx
    dsimp only at hx
    rw [hr] at hx
    dsimp only at hx
    cases hx
    refine ⟨W, K, ?_⟩
    show Q r (ex_V h)
    rw [eV]; exact k
theorem ex_op (hM : pm_Mt mid q l) (hf : pm_find l pc = some (i, L)) {st_q : List Value} (ho : pm_op i st = some st_q) (hp : pc + pm_len i = pc_q) (k : ex_P N d mid pc_q ls st_q S Q) : ex_P N d mid pc ls st S Q := by
  subst hp
  refine (ex_step hM hf (pm_noret _ (Or.inr (Or.inl (by rw [ho]; rfl)))) (fun h => pm_nocall _ (Or.inl (by rw [ho]; rfl))) (fun h eV W K z hz => ?_)).weak
  unfold pm_step at hz
  rw [ho] at hz
  cases hz
  refine ⟨W, K, ?_⟩
  show ex_P N d mid (pc + pm_len i) ls st_q (ex_V h) Q
  rw [eV]; exact k
theorem ex_lo (hM : pm_Mt mid q l) (hf : pm_find l pc = some (i, L)) {ls_q st_q : List Value} (ho : pm_lo i ls st = some (ls_q, st_q)) (hp : pc + pm_len i = pc_q) (k : ex_P N d mid pc_q ls_q st_q S Q) : ex_P N d mid pc ls st S Q := by
  subst hp
  refine (ex_step hM hf (pm_noret _ (Or.inr (Or.inr (Or.inl ⟨ls, by rw [ho]; rfl⟩)))) (fun h => pm_nocall _ (Or.inr (Or.inl ⟨ls, by rw [ho]; rfl⟩))) (fun h eV W K z hz => ?_)).weak
  unfold pm_step at hz
  rw [pm_op_lo ho, ho] at hz
  cases hz
  refine ⟨W, K, ?_⟩
  show ex_P N d mid (pc + pm_len i) ls_q st_q (ex_V h) Q
  rw [eV]; exact k
theorem ex_goS (hM : pm_Mt mid q l) (hf : pm_find l pc = some (i, L)) {st_q : List Value} (ho : pm_br i pc st = some (pc_q, st_q)) (k : ex_P N d mid pc_q ls st_q S Q) : ex_P (N + 1) d mid pc ls st S Q := by
  refine (ex_step hM hf (pm_noret _ (Or.inr (Or.inr (Or.inr (Or.inl ⟨pc, by rw [ho]; rfl⟩))))) (fun h => pm_nocall _ (Or.inr (Or.inr ⟨pc, by rw [ho]; rfl⟩))) (fun h eV W K z hz => ?_))
  unfold pm_step at hz
  rw [(pm_op_br ho).1, (pm_op_br ho).2, ho] at hz
  cases hz
  refine ⟨W, K, ?_⟩
  show ex_P N d mid pc_q ls st_q (ex_V h) Q
  rw [eV]; exact k
theorem ex_br (hM : pm_Mt mid q l) (hf : pm_find l pc = some (i, L)) {st_q : List Value} (ho : pm_br i pc st = some (pc_q, st_q)) (k : ex_P N d mid pc_q ls st_q S Q) : ex_P N d mid pc ls st S Q := (ex_goS hM hf ho k).weak
/-- a switch: where it goes is told by what is known of the number -/
theorem ex_sw (hM : pm_Mt mid q l) (hf : pm_find l pc = some (i, L)) (h1 : pm_op i st = none) (h2 : pm_lo i ls st = none) (hi : pm_cix i = none) (hr : pm_ret q.2.2.2.1 i st = none) (h4 : ∀ a b h, pm_hp a b i st h = none) (k : ∀ z, pm_br i pc st = some z → ex_P N d mid z.1 ls z.2 S Q) : ex_P N d mid pc ls st S Q := by
  refine (ex_step hM hf hr (fun h => pm_nocall2 hi) (fun h eV W K z hz => ?_)).weak
  unfold pm_step at hz
  rw [h1, h2] at hz
  dsimp only at hz
  split at hz
  · rename_i x hx
    cases hz
    refine ⟨W, K, ?_⟩
    show ex_P N d mid x.1 ls x.2 (ex_V h) Q
    rw [eV]; exact k x hx
  · rw [h4] at hz; cases hz
theorem ex_icmp (hM : pm_Mt mid q l) {c : Jvm.ClassFile.Cond} {off : Int} {x y : Int32} {t : Nat} (hf : pm_find l pc = some (.if_icmp c off, L)) (ht : pm_to pc off = some t) (hp : pc + 3 = pc_q) (kt : pm_cnd c x y → ex_P N d mid t ls st S Q) (kf : ¬ pm_cnd c x y → ex_P N d mid pc_q ls st S Q) : ex_P N d mid pc ls (.int y :: .int x :: st) S Q := by
  subst hp
  have e : pm_br (.if_icmp c off) pc (.int y :: .int x :: st) = some (@ite Nat (pm_cnd c x y) (pm_cndD c x y) t (pc + 3), st) := by
    show pm_if _ _ _ _ _ = _
    unfold pm_if
    rw [ht]
    rfl
  refine ex_br hM hf e ?_
  by_cases hc : pm_cnd c x y
  · rw [if_pos hc]; exact kt hc
  · rw [if_neg hc]; exact kf hc
theorem ex_ifc (hM : pm_Mt mid q l) {c : Jvm.ClassFile.Cond} {off : Int} {x : Int32} {t : Nat} (hf : pm_find l pc = some (.ifCond c off, L)) (ht : pm_to pc off = some t) (hp : pc + 3 = pc_q) (kt : pm_cnd c x 0 → ex_P N d mid t ls st S Q) (kf : ¬ pm_cnd c x 0 → ex_P N d mid pc_q ls st S Q) : ex_P N d mid pc ls (.int x :: st) S Q := by
  subst hp
  have e : pm_br (.ifCond c off) pc (.int x :: st) = some (@ite Nat (pm_cnd c x 0) (pm_cndD c x 0) t (pc + 3), st) := by
    show pm_if _ _ _ _ _ = _
    unfold pm_if
    rw [ht]
    rfl
  refine ex_br hM hf e ?_
  by_cases hc : pm_cnd c x 0
  · rw [if_pos hc]; exact kt hc
  · rw [if_neg hc]; exact kf hc
theorem ex_ifn (hM : pm_Mt mid q l) {off : Int} {o : Option Nat} {v : Value} {t : Nat} (hv : v = va_rf o) (hf : pm_find l pc = some (.ifnull off, L)) (ht : pm_to pc off = some t) (hp : pc + 3 = pc_q) (kt : o = none → ex_P N d mid t ls st S Q) (kf : ∀ b, o = some b → ex_P N d mid pc_q ls st S Q) : ex_P N d mid pc ls (v :: st) S Q := by
  subst hp
  subst hv
  cases o with
  | none => exact ex_br hM hf (by show (pm_to pc off).map _ = _; rw [ht]; rfl) (kt rfl)
  | some b => exact ex_br hM hf (pc_q := pc + 3) (st_q := st) rfl (kf b rfl)
theorem ex_ifnn (hM : pm_Mt mid q l) {off : Int} {o : Option Nat} {v : Value} {t : Nat} (hv : v = va_rf o) (hf : pm_find l pc = some (.ifnonnull off, L)) (ht : pm_to pc off = some t) (hp : pc + 3 = pc_q) (kt : ∀ b, o = some b → ex_P N d mid t ls st S Q) (kf : o = none → ex_P N d mid pc_q ls st S Q) : ex_P N d mid pc ls (v :: st) S Q := by
  subst hp
  subst hv
  cases o with
  | none => exact ex_br hM hf (pc_q := pc + 3) (st_q := st) rfl (kf rfl)
  | some b => exact ex_br hM hf (by show (pm_to pc off).map _ = _; rw [ht]; rfl) (kt b rfl)
/-- division: what comes back was no division by 0 -/
theorem ex_dv (hM : pm_Mt mid q l) (hf : pm_find l pc = some (i, L)) {c : Prop} {hd : Decidable c} {st_q : List Value} (ho : pm_op i st = if c then none else some st_q) (h2 : pm_lo i ls st = none) (h3 : pm_br i pc st = none) (h4 : ∀ a b h, pm_hp a b i st h = none) (hi : pm_cix i = none) (hr : pm_ret q.2.2.2.1 i st = none) (hp : pc + pm_len i = pc_q) (k : ¬ c → ex_P N d mid pc_q ls st_q S Q) : ex_P N d mid pc ls st S Q := by
  by_cases hc : c
  · refine (ex_step hM hf hr (fun h => pm_nocall2 hi) (fun h eV W K z hz => ?_)).weak
    exfalso
    unfold pm_step at hz
    rw [ho, if_pos hc, h2, h3, h4] at hz
    cases hz
  · rw [if_neg hc] at ho
    exact ex_op hM hf ho hp (k hc)
theorem ex_hp (hM : pm_Mt mid q l) (hf : pm_find l pc = some (i, L)) (hc : ∀ h, pm_call q.2.2.2.2 i st h = none) (hr : pm_ret q.2.2.2.1 i st = none) (h1 : pm_op i st = none) (h2 : pm_lo i ls st = none) (h3 : pm_br i pc st = none) (k : ∀ h, ex_V h = S → ex_W h → ex_K h → ∀ z, pm_hp (decide (q.1.name = "<init>")) q.2.2.2.2 i st h = some z → ex_W z.2 ∧ ex_K z.2 ∧ ex_P N d mid (pc + pm_len i) ls z.1 (ex_V z.2) Q) : ex_P N d mid pc ls st S Q := by
  refine (ex_step hM hf hr hc (fun h eV W K z hz => ?_)).weak
  unfold pm_step at hz
  rw [h1, h2, h3] at hz
  dsimp only at hz
  split at hz
  · rename_i x hx; cases hz; exact k h eV W K x hx
  · cases hz
theorem ex_hb (hM : pm_Mt mid q l) (hf : pm_find l pc = some (i, L)) (hc : ∀ h, pm_call q.2.2.2.2 i st h = none) (hr : pm_ret q.2.2.2.1 i st = none) (h1 : pm_op i st = none) (h2 : pm_lo i ls st = none) (h3 : pm_br i pc st = none) (hs : ∀ h, pm_str q.2.2.2.2 i st h = none) (hpf : ∀ ix, i = .putfield ix → ex_free q.2.2.2.2 ix = true) (k : ∀ h, ex_V h = S → ex_W h → ex_K h → ∀ z, pm_hb (decide (q.1.name = "<init>")) q.2.2.2.2 i st h = some z → ex_P N d mid (pc + pm_len i) ls z.1 (ex_V z.2) Q) : ex_P N d mid pc ls st S Q := by
  refine ex_hp hM hf hc hr h1 h2 h3 (fun h eV W K z hz => ?_)
  rcases pm_hp_cases hz with hz | ⟨s, hz, _⟩
  · exact ⟨ex_W_ch (ex_hb_ch hz) W, ex_K_ch (ex_hb_ch hz) K hpf, k h eV W K z hz⟩
  · rw [hs] at hz; cases hz
theorem ex_gf {c ix a ci k : Nat} {nb : Bool} {h : pm_H} {v : Value} (hF : pm_at pm_FL c ix = some (ci, k, nb)) (hv : pm_gf c ix h a = some v) : ∃ fs, h.2.2 a = .inr (ci, fs) ∧ 16 ≤ a ∧ a < h.1 ∧ fs[k]? = some v := by
  unfold pm_gf at hv
  rw [hF] at hv
  obtain ⟨x, e1, e⟩ := Option.bind_eq_some_iff.mp hv
  cases e1
  split at e
  · rename_i ci' fs e3
    split at e
    · rename_i g
      obtain ⟨g1, g2, g3⟩ := g
      dsimp only at g3
      subst g3
      exact ⟨fs, e3, g1, g2, e⟩
    · cases e
  · cases e
theorem ex_get0 (hM : pm_Mt mid q l) {ix a ci k : Nat} {nb : Bool} (hf : pm_find l pc = some (.getfield ix, L)) (hF : pm_at pm_FL q.2.2.2.2 ix = some (ci, k, nb)) (h8 : Nat.beq q.2.2.2.2 8 = false) (kk : ∀ h, ex_V h = S → ex_K h → ∀ fs v, h.2.2 a = .inr (ci, fs) → fs[k]? = some v → ex_kv (ex_ft ci k) v → ex_P N d mid (pc + 3) ls (v :: st) S Q) : ex_P N d mid pc ls (.ref a :: st) S Q := by
  refine ex_hb hM hf (fun h => pm_nocall2 rfl) rfl rfl rfl rfl (fun h => ?_) (fun ix z => by cases z) (fun h eV W K z hz => ?_)
  · have n8 : ¬ q.2.2.2.2 = 8 := Nat.ne_of_beq_eq_false h8
    show (if q.2.2.2.2 = 8 ∧ 7 ≤ a ∧ a < 11 ∧ ix = 9 then some (Value.ref (a + 4) :: st) else if q.2.2.2.2 = 8 ∧ 7 ≤ a ∧ a < 11 ∧ ix = 15 then some (Value.int 0 :: st) else none) = none
    rw [if_neg (fun z => n8 z.1), if_neg (fun z => n8 z.1)]
  · obtain ⟨v, hv, e⟩ := Option.map_eq_some_iff.mp (show (pm_gf q.2.2.2.2 ix h a).map (fun v => (v :: st, h)) = some z from hz)
    subst e
    obtain ⟨fs, g1, g2, g3, g4⟩ := ex_gf hF hv
    show ex_P N d mid (pc + 3) ls (v :: st) (ex_V h) Q
    rw [eV]
    exact kk h eV K fs v g1 g4 (W a ci fs g1 g2 g3 k v g4)
theorem ex_getI (hM : pm_Mt mid q l) {ix a ci k : Nat} {nb : Bool} (hf : pm_find l pc = some (.getfield ix, L)) (hF : pm_at pm_FL q.2.2.2.2 ix = some (ci, k, nb)) (h8 : Nat.beq q.2.2.2.2 8 = false) (ht : ex_ft ci k = 0) (hp : pc + 3 = pc_q) (kk : ex_P N d mid pc_q ls (.int (S.1 a k) :: st) S Q) : ex_P N d mid pc ls (.ref a :: st) S Q := by
  subst hp
  refine ex_get0 hM hf hF h8 (fun h eV K fs v g1 g4 w => ?_)
  rw [ht] at w
  obtain ⟨x, rfl⟩ := w
  have e1 : x = S.1 a k := by rw [← eV]; show x = ex_eX (h.2.2 a) k; rw [g1]; show x = ex_i fs[k]?; rw [g4]; rfl
  rw [e1]; exact kk
theorem ex_getL (hM : pm_Mt mid q l) {ix a ci k : Nat} {nb : Bool} (hf : pm_find l pc = some (.getfield ix, L)) (hF : pm_at pm_FL q.2.2.2.2 ix = some (ci, k, nb)) (h8 : Nat.beq q.2.2.2.2 8 = false) (ht : ex_ft ci k = 1) (hp : pc + 3 = pc_q) (kk : ex_P N d mid pc_q ls (.long (S.2.1 a k) :: st) S Q) : ex_P N d mid pc ls (.ref a :: st) S Q := by
  subst hp
  refine ex_get0 hM hf hF h8 (fun h eV K fs v g1 g4 w => ?_)
  rw [ht] at w
  obtain ⟨x, rfl⟩ := w
  have e1 : x = S.2.1 a k := by rw [← eV]; show x = ex_eY (h.2.2 a) k; rw [g1]; show x = ex_l fs[k]?; rw [g4]; rfl
  rw [e1]; exact kk
theorem ex_getR (hM : pm_Mt mid q l) {ix a ci k : Nat} {nb : Bool} (hf : pm_find l pc = some (.getfield ix, L)) (hF : pm_at pm_FL q.2.2.2.2 ix = some (ci, k, nb)) (h8 : Nat.beq q.2.2.2.2 8 = false) (ht : ex_ft ci k = 2) (hp : pc + 3 = pc_q) (kk : ex_P N d mid pc_q ls (va_rf (S.2.2.1 a k) :: st) S Q) : ex_P N d mid pc ls (.ref a :: st) S Q := by
  subst hp
  refine ex_get0 hM hf hF h8 (fun h eV K fs v g1 g4 w => ?_)
  rw [ht] at w
  obtain ⟨x, rfl⟩ := w
  have e1 : x = S.2.2.1 a k := by
    rw [← eV]; show x = ex_eZ (h.2.2 a) k; rw [g1]; show x = ex_r fs[k]?; rw [g4]
    cases x <;> rfl
  rw [← e1] at kk; exact kk
/-- a reference that stays what it is -/
theorem ex_getK (hM : pm_Mt mid q l) {ix a ci k b j : Nat} {nb : Bool} (hf : pm_find l pc = some (.getfield ix, L)) (hF : pm_at pm_FL q.2.2.2.2 ix = some (ci, k, nb)) (h8 : Nat.beq q.2.2.2.2 8 = false) (hx : ex_tab[j]? = some (a, ci, k, b)) (hp : pc + 3 = pc_q) (kk : ex_P N d mid pc_q ls (.ref b :: st) S Q) : ex_P N d mid pc ls (.ref a :: st) S Q := by
  subst hp
  refine ex_get0 hM hf hF h8 (fun h eV K fs v g1 g4 w => ?_)
  obtain ⟨fs_q, f1, f2⟩ := K.2.2.1 (a, ci, k, b) (List.mem_of_getElem? hx)
  have f1' : h.2.2 a = .inr (ci, fs_q) := f1
  rw [g1] at f1'
  injection f1' with f3
  injection f3 with f3 f4
  subst f4
  have f2' : fs[k]? = some (.ref b) := f2
  rw [g4] at f2'
  cases f2'
  exact kk
/-- a reference whose cell is known -/
theorem ex_getA (hM : pm_Mt mid q l) {ix a ci k b : Nat} {nb : Bool} (hf : pm_find l pc = some (.getfield ix, L)) (hF : pm_at pm_FL q.2.2.2.2 ix = some (ci, k, nb)) (h8 : Nat.beq q.2.2.2.2 8 = false) (ht : ex_ft ci k = 2) (hx : S.2.2.1 a k = some b) (hp : pc + 3 = pc_q) (kk : ex_P N d mid pc_q ls (.ref b :: st) S Q) : ex_P N d mid pc ls (.ref a :: st) S Q := by
  refine ex_getR hM hf hF h8 ht hp ?_
  rw [hx]; exact kk
theorem ex_put0 (hM : pm_Mt mid q l) {ix a ci k : Nat} {nb : Bool} {v : Value} (hf : pm_find l pc = some (.putfield ix, L)) (hF : pm_at pm_FL q.2.2.2.2 ix = some (ci, k, nb)) (hr : pm_ret q.2.2.2.1 (.putfield ix) (v :: .ref a :: st) = none) (hfr : ex_free q.2.2.2.2 ix = true) (kk : ∀ h, ex_V h = S → ∀ fs v0, h.2.2 a = .inr (ci, fs) → k < fs.length → fs[k]? = some v0 → ex_kv (ex_ft ci k) v0 → ex_kv (ex_ft ci k) v → ex_P N d mid (pc + 3) ls st (ex_V (pm_set h a (.inr (ci, fs.set k v)))) Q) : ex_P N d mid pc ls (v :: .ref a :: st) S Q := by
  refine ex_hb hM hf (fun h => pm_nocall2 rfl) hr rfl rfl rfl (fun h => rfl) (fun ix' z => by cases z; exact hfr) (fun h eV W K z hz => ?_)
  obtain ⟨h_q, hv, e⟩ := Option.map_eq_some_iff.mp (show (pm_pf (decide (q.1.name = "<init>")) q.2.2.2.2 ix h a v).map (fun h => (st, h)) = some z from hz)
  subst e
  obtain ⟨ci', k_q, nb', fs, qq, e1, e2, e3, e4, e5, e6, e7, e8⟩ := ex_pf hv
  rw [hF] at e1
  cases e1
  subst e8
  exact kk h eV fs fs[k] e3 e6 (List.getElem?_eq_getElem e6) (W a ci fs e3 e4 e5 k _ (List.getElem?_eq_getElem e6)) (ex_fit e2 e7)
theorem ex_setget {fs : List Value} {k j : Nat} {v : Value} (h : k < fs.length) : (fs.set k v)[j]? = if j = k then some v else fs[j]? := by
  by_cases hj : j = k
  · subst hj; rw [if_pos rfl, List.getElem?_set_self h]
  · rw [if_neg hj, List.getElem?_set_ne (fun z => hj z.symm)]
theorem ex_putI (hM : pm_Mt mid q l) {ix a ci k : Nat} {nb : Bool} {x : Int32} (hf : pm_find l pc = some (.putfield ix, L)) (hF : pm_at pm_FL q.2.2.2.2 ix = some (ci, k, nb)) (hfr : ex_free q.2.2.2.2 ix = true) (ht : ex_ft ci k = 0) (hp : pc + 3 = pc_q) (kk : ex_P N d mid pc_q ls st (ex_sx S a k x) Q) : ex_P N d mid pc ls (.int x :: .ref a :: st) S Q := by
  subst hp
  refine ex_put0 hM hf hF rfl hfr (fun h eV fs v0 g1 g2 g3 w w_q => ?_)
  rw [ht] at w
  obtain ⟨y, rfl⟩ := w
  rw [ex_V_sx (k := k) (v := x), eV]
  · exact kk
  · intro j; rw [g1]; show ex_i (fs.set k (.int x))[j]? = if j = k then x else ex_i fs[j]?
    rw [ex_setget g2]; split <;> rfl
  · intro j; rw [g1]; show ex_l (fs.set k (.int x))[j]? = ex_l fs[j]?
    rw [ex_setget g2]; split
    · rename_i e; rw [e, g3]; rfl
    · rfl
  · intro j; rw [g1]; show ex_r (fs.set k (.int x))[j]? = ex_r fs[j]?
    rw [ex_setget g2]; split
    · rename_i e; rw [e, g3]; rfl
    · rfl
  · rw [g1]; rfl
theorem ex_putL (hM : pm_Mt mid q l) {ix a ci k : Nat} {nb : Bool} {x : Int64} (hf : pm_find l pc = some (.putfield ix, L)) (hF : pm_at pm_FL q.2.2.2.2 ix = some (ci, k, nb)) (hfr : ex_free q.2.2.2.2 ix = true) (ht : ex_ft ci k = 1) (hp : pc + 3 = pc_q) (kk : ex_P N d mid pc_q ls st (ex_sy S a k x) Q) : ex_P N d mid pc ls (.long x :: .ref a :: st) S Q := by
  subst hp
  refine ex_put0 hM hf hF rfl hfr (fun h eV fs v0 g1 g2 g3 w w_q => ?_)
  rw [ht] at w
  obtain ⟨y, rfl⟩ := w
  rw [ex_V_sy (k := k) (v := x), eV]
  · exact kk
  · intro j; rw [g1]; show ex_i (fs.set k (.long x))[j]? = ex_i fs[j]?
    rw [ex_setget g2]; split
    · rename_i e; rw [e, g3]; rfl
    · rfl
  · intro j; rw [g1]; show ex_l (fs.set k (.long x))[j]? = if j = k then x else ex_l fs[j]?
    rw [ex_setget g2]; split <;> rfl
  · intro j; rw [g1]; show ex_r (fs.set k (.long x))[j]? = ex_r fs[j]?
    rw [ex_setget g2]; split
    · rename_i e; rw [e, g3]; rfl
    · rfl
  · rw [g1]; rfl
theorem ex_putR (hM : pm_Mt mid q l) {ix a ci k : Nat} {nb : Bool} {v : Value} {x : Option Nat} (hv : v = va_rf x) (hf : pm_find l pc = some (.putfield ix, L)) (hF : pm_at pm_FL q.2.2.2.2 ix = some (ci, k, nb)) (hfr : ex_free q.2.2.2.2 ix = true) (ht : ex_ft ci k = 2) (hp : pc + 3 = pc_q) (kk : ex_P N d mid pc_q ls st (ex_sz S a k x) Q) : ex_P N d mid pc ls (v :: .ref a :: st) S Q := by
  subst hp
  subst hv
  refine ex_put0 hM hf hF rfl hfr (fun h eV fs v0 g1 g2 g3 w w_q => ?_)
  rw [ht] at w
  obtain ⟨y, rfl⟩ := w
  rw [ex_V_sz (k := k) (v := x), eV]
  · exact kk
  · intro j; rw [g1]; show ex_i (fs.set k (va_rf x))[j]? = ex_i fs[j]?
    rw [ex_setget g2]; split
    · rename_i e; rw [e, g3]; cases x <;> cases y <;> rfl
    · rfl
  · intro j; rw [g1]; show ex_l (fs.set k (va_rf x))[j]? = ex_l fs[j]?
    rw [ex_setget g2]; split
    · rename_i e; rw [e, g3]; cases x <;> cases y <;> rfl
    · rfl
  · intro j; rw [g1]; show ex_r (fs.set k (va_rf x))[j]? = if j = k then x else ex_r fs[j]?
    rw [ex_setget g2]; split
    · cases x <;> rfl
    · rfl
  · rw [g1]; rfl
theorem ex_stat (hM : pm_Mt mid q l) {ix : Nat} {x : Nat × Bool} (hf : pm_find l pc = some (.getstatic ix, L)) (hF : pm_at pm_SL q.2.2.2.2 ix = some x) (h8 : Nat.beq q.2.2.2.2 8 = false) (hp : pc + 3 = pc_q) (kk : ex_P N d mid pc_q ls (.ref x.1 :: st) S Q) : ex_P N d mid pc ls st S Q := by
  subst hp
  have n8 : ¬ q.2.2.2.2 = 8 := Nat.ne_of_beq_eq_false h8
  refine ex_hb hM hf (fun h => pm_nocall2 rfl) (pm_noret _ (Or.inl (by show 3 ≠ 1; decide))) rfl rfl rfl (fun h => ?_) (fun ix z => by cases z) (fun h eV W K z hz => ?_)
  · show (if q.2.2.2.2 = 8 ∧ ix = 38 then some (Value.int 1 :: st) else if q.2.2.2.2 = 8 ∧ ix = 1053 then some (pm_fmt h :: st) else none) = none
    rw [if_neg (fun z => n8 z.1), if_neg (fun z => n8 z.1)]
  · have e : some (Value.ref x.1 :: st, h) = some z := by
      rw [← hz]; show _ = (pm_at pm_SL q.2.2.2.2 ix).map _; rw [hF]; rfl
    cases e
    show ex_P N d mid (pc + 3) ls (.ref x.1 :: st) (ex_V h) Q
    rw [eV]; exact kk
theorem ex_ldc (hM : pm_Mt mid q l) {ix : Nat} {x : Int32} (hf : pm_find l pc = some (.ldc ix, L)) (hF : pm_at pm_KL q.2.2.2.2 ix = some x) (h3 : Nat.beq q.2.2.2.2 3 = false) (hp : pc + 2 = pc_q) (kk : ex_P N d mid pc_q ls (.int x :: st) S Q) : ex_P N d mid pc ls st S Q := by
  subst hp
  have n3 : ¬ q.2.2.2.2 = 3 := Nat.ne_of_beq_eq_false h3
  refine ex_hb hM hf (fun h => pm_nocall2 rfl) (pm_noret _ (Or.inl (by show 2 ≠ 1; decide))) rfl rfl rfl (fun h => ?_) (fun ix z => by cases z) (fun h eV W K z hz => ?_)
  · show (if q.2.2.2.2 = 3 then (pm_ks ix).map (fun j => Value.ref j :: st) else none) = none
    rw [if_neg n3]
  · have e : some (Value.int x :: st, h) = some z := by
      rw [← hz]; show _ = (pm_at pm_KL q.2.2.2.2 ix).map _; rw [hF]; rfl
    cases e
    show ex_P N d mid (pc + 2) ls (.int x :: st) (ex_V h) Q
    rw [eV]; exact kk
theorem ex_ldcw (hM : pm_Mt mid q l) {ix : Nat} {x : Int32} (hf : pm_find l pc = some (.ldc_w ix, L)) (hF : pm_at pm_KL q.2.2.2.2 ix = some x) (hp : pc + 3 = pc_q) (kk : ex_P N d mid pc_q ls (.int x :: st) S Q) : ex_P N d mid pc ls st S Q := by
  subst hp
  refine ex_hb hM hf (fun h => pm_nocall2 rfl) (pm_noret _ (Or.inl (by show 3 ≠ 1; decide))) rfl rfl rfl (fun h => rfl) (fun ix z => by cases z) (fun h eV W K z hz => ?_)
  have e : some (Value.int x :: st, h) = some z := by
    rw [← hz]; show _ = (pm_at pm_KL q.2.2.2.2 ix).map _; rw [hF]; rfl
  cases e
  show ex_P N d mid (pc + 3) ls (.int x :: st) (ex_V h) Q
  rw [eV]; exact kk
theorem ex_ldc2 (hM : pm_Mt mid q l) {ix : Nat} {x : Int64} (hf : pm_find l pc = some (.ldc2_w ix, L)) (hF : pm_at pm_LL q.2.2.2.2 ix = some x) (hp : pc + 3 = pc_q) (kk : ex_P N d mid pc_q ls (.long x :: st) S Q) : ex_P N d mid pc ls st S Q := by
  subst hp
  refine ex_hb hM hf (fun h => pm_nocall2 rfl) (pm_noret _ (Or.inl (by show 3 ≠ 1; decide))) rfl rfl rfl (fun h => rfl) (fun ix z => by cases z) (fun h eV W K z hz => ?_)
  have e : some (Value.long x :: st, h) = some z := by
    rw [← hz]; show _ = (pm_at pm_LL q.2.2.2.2 ix).map _; rw [hF]; rfl
  cases e
  show ex_P N d mid (pc + 3) ls (.long x :: st) (ex_V h) Q
  rw [eV]; exact kk
/-- a String constant -/
theorem ex_ldcs (hM : pm_Mt mid q l) {ix j : Nat} (hf : pm_find l pc = some (.ldc ix, L)) (hF : pm_at pm_KL q.2.2.2.2 ix = none) (h3 : q.2.2.2.2 = 3) (hk : pm_ks ix = some j) (hp : pc + 2 = pc_q) (kk : ex_P N d mid pc_q ls (.ref j :: st) S Q) : ex_P N d mid pc ls st S Q := by
  subst hp
  refine ex_hp hM hf (fun h => pm_nocall2 rfl) (pm_noret _ (Or.inl (by show 2 ≠ 1; decide))) rfl rfl rfl (fun h eV W K z hz => ?_)
  rcases pm_hp_cases hz with hz | ⟨s, hz, e⟩
  · exfalso
    have e : none = some z := by
      rw [← hz]; show _ = (pm_at pm_KL q.2.2.2.2 ix).map _; rw [hF]; rfl
    cases e
  · have e2 : some (Value.ref j :: st) = some s := by
      rw [← hz]; show _ = if q.2.2.2.2 = 3 then (pm_ks ix).map (fun j => Value.ref j :: st) else none
      rw [if_pos h3, hk]; rfl
    cases e2
    subst e
    refine ⟨W, K, ?_⟩
    show ex_P N d mid (pc + 2) ls (.ref j :: st) (ex_V h) Q
    rw [eV]; exact kk
theorem ex_alen (hM : pm_Mt mid q l) {a : Nat} (hf : pm_find l pc = some (.arraylength, L)) (hp : pc + 1 = pc_q) (kk : ex_P N d mid pc_q ls (.int (Int32.ofNat (S.2.2.2.1 a)) :: st) S Q) : ex_P N d mid pc ls (.ref a :: st) S Q := by
  subst hp
  refine ex_hp hM hf (fun h => pm_nocall2 rfl) rfl rfl rfl rfl (fun h eV W K z hz => ?_)
  have key : ∀ n t x, h.2.2 a = .inl (t, n, x) → z = (.int (Int32.ofNat n) :: st, h) → ex_W z.2 ∧ ex_K z.2 ∧ ex_P N d mid (pc + 1) ls z.1 (ex_V z.2) Q := by
    intro n t x e ez
    subst ez
    have e1 : n = S.2.2.2.1 a := by rw [← eV]; show n = ex_eL (h.2.2 a); rw [e]; rfl
    refine ⟨W, K, ?_⟩
    show ex_P N d mid (pc + 1) ls (.int (Int32.ofNat n) :: st) (ex_V h) Q
    rw [eV, e1]; exact kk
  rcases pm_hp_cases hz with hz | ⟨s, hz, e⟩
  · unfold pm_hb at hz
    dsimp only at hz
    split at hz
    · rename_i e
      split at hz
      · cases hz; exact key _ _ _ e rfl
      · cases hz
    · rename_i e
      split at hz
      · cases hz; exact key _ _ _ e rfl
      · cases hz
    · cases hz
  · unfold pm_str at hz
    dsimp only at hz
    split at hz
    · rename_i e3
      split at hz
      · cases hz; exact key _ _ _ e3 e
      · cases hz
    · cases hz
theorem ex_iald (hM : pm_Mt mid q l) {a : Nat} {j : Int32} (hf : pm_find l pc = some (.iaload, L)) (hp : pc + 1 = pc_q) (kk : ex_P N d mid pc_q ls (.int (S.1 a j.toNatClampNeg) :: st) S Q) : ex_P N d mid pc ls (.int j :: .ref a :: st) S Q := by
  subst hp
  refine ex_hb hM hf (fun h => pm_nocall2 rfl) rfl rfl rfl rfl (fun h => rfl) (fun ix z => by cases z) (fun h eV W K z hz => ?_)
  unfold pm_hb at hz
  dsimp only at hz
  split at hz
  · rename_i n f e
    split at hz
    · cases hz
      have e1 : f j.toNatClampNeg = S.1 a j.toNatClampNeg := by rw [← eV]; show _ = ex_eX (h.2.2 a) _; rw [e]; rfl
      show ex_P N d mid (pc + 1) ls (.int (f j.toNatClampNeg) :: st) (ex_V h) Q
      rw [eV, e1]; exact kk
    · cases hz
  · cases hz
theorem ex_lald (hM : pm_Mt mid q l) {a : Nat} {j : Int32} (hf : pm_find l pc = some (.laload, L)) (hp : pc + 1 = pc_q) (kk : ex_P N d mid pc_q ls (.long (S.2.1 a j.toNatClampNeg) :: st) S Q) : ex_P N d mid pc ls (.int j :: .ref a :: st) S Q := by
  subst hp
  refine ex_hb hM hf (fun h => pm_nocall2 rfl) rfl rfl rfl rfl (fun h => rfl) (fun ix z => by cases z) (fun h eV W K z hz => ?_)
  unfold pm_hb at hz
  dsimp only at hz
  split at hz
  · rename_i n f e
    split at hz
    · cases hz
      have e1 : f j.toNatClampNeg = S.2.1 a j.toNatClampNeg := by rw [← eV]; show _ = ex_eY (h.2.2 a) _; rw [e]; rfl
      show ex_P N d mid (pc + 1) ls (.long (f j.toNatClampNeg) :: st) (ex_V h) Q
      rw [eV, e1]; exact kk
    · cases hz
  · cases hz
theorem ex_aald (hM : pm_Mt mid q l) {a : Nat} {j : Int32} (hf : pm_find l pc = some (.aaload, L)) (hp : pc + 1 = pc_q) (kk : ex_P N d mid pc_q ls (va_rf (S.2.2.1 a j.toNatClampNeg) :: st) S Q) : ex_P N d mid pc ls (.int j :: .ref a :: st) S Q := by
  subst hp
  refine ex_hb hM hf (fun h => pm_nocall2 rfl) rfl rfl rfl rfl (fun h => rfl) (fun ix z => by cases z) (fun h eV W K z hz => ?_)
  unfold pm_hb at hz
  dsimp only at hz
  split at hz
  · rename_i t n f e
    split at hz
    · cases hz
      have e1 : f j.toNatClampNeg = S.2.2.1 a j.toNatClampNeg := by rw [← eV]; show _ = ex_eZ (h.2.2 a) _; rw [e]; rfl
      show ex_P N d mid (pc + 1) ls (va_rf (f j.toNatClampNeg) :: st) (ex_V h) Q
      rw [eV, e1]; exact kk
    · cases hz
  · cases hz
theorem ex_bald (hM : pm_Mt mid q l) {a : Nat} {j : Int32} (hf : pm_find l pc = some (.baload, L)) (hp : pc + 1 = pc_q) (kk : ex_P N d mid pc_q ls (.int (S.1 a j.toNatClampNeg) :: st) S Q) : ex_P N d mid pc ls (.int j :: .ref a :: st) S Q := by
  subst hp
  refine ex_hp hM hf (fun h => pm_nocall2 rfl) rfl rfl rfl rfl (fun h eV W K z hz => ?_)
  have key : ∀ n t f, h.2.2 a = .inl (t, n, .inl f) → z = (.int (f j.toNatClampNeg) :: st, h) → ex_W z.2 ∧ ex_K z.2 ∧ ex_P N d mid (pc + 1) ls z.1 (ex_V z.2) Q := by
    intro n t f e ez
    subst ez
    have e1 : f j.toNatClampNeg = S.1 a j.toNatClampNeg := by rw [← eV]; show _ = ex_eX (h.2.2 a) _; rw [e]; rfl
    refine ⟨W, K, ?_⟩
    show ex_P N d mid (pc + 1) ls (.int (f j.toNatClampNeg) :: st) (ex_V h) Q
    rw [eV, e1]; exact kk
  rcases pm_hp_cases hz with hz | ⟨s, hz, e⟩
  · unfold pm_hb at hz
    dsimp only at hz
    split at hz
    · rename_i e
      split at hz
      · cases hz; exact key _ _ _ e rfl
      · cases hz
    · rename_i e
      split at hz
      · cases hz; exact key _ _ _ e rfl
      · cases hz
    · cases hz
  · unfold pm_str at hz
    dsimp only at hz
    split at hz
    · rename_i e3
      split at hz
      · cases hz; exact key _ _ _ e3 e
      · cases hz
    · cases hz
theorem ex_upd_eX {e : pm_E} {t n k : Nat} {f : Nat → Int32} {x : Int32} (he : e = .inl (t, n, .inl f)) (j : Nat) : ex_eX (.inl (t, n, .inl (upd f k x))) j = if j = k then x else ex_eX e j := by rw [he]; rfl
theorem ex_iast (hM : pm_Mt mid q l) {a : Nat} {j x : Int32} (hf : pm_find l pc = some (.iastore, L)) (hp : pc + 1 = pc_q) (kk : ex_P N d mid pc_q ls st (ex_sx S a j.toNatClampNeg x) Q) : ex_P N d mid pc ls (.int x :: .int j :: .ref a :: st) S Q := by
  subst hp
  refine ex_hb hM hf (fun h => pm_nocall2 rfl) rfl rfl rfl rfl (fun h => rfl) (fun ix z => by cases z) (fun h eV W K z hz => ?_)
  unfold pm_hb at hz
  dsimp only at hz
  split at hz
  · rename_i n f e
    split at hz
    · cases hz
      show ex_P N d mid (pc + 1) ls st (ex_V (pm_set h a (.inl (0, n, .inl (upd f j.toNatClampNeg x))))) Q
      rw [ex_V_sx (k := j.toNatClampNeg) (v := x) (ex_upd_eX e) (fun j => by rw [e]; rfl) (fun j => by rw [e]; rfl) (by rw [e]; rfl), eV]
      exact kk
    · cases hz
  · cases hz
theorem ex_last (hM : pm_Mt mid q l) {a : Nat} {j : Int32} {x : Int64} (hf : pm_find l pc = some (.lastore, L)) (hp : pc + 1 = pc_q) (kk : ex_P N d mid pc_q ls st (ex_sy S a j.toNatClampNeg x) Q) : ex_P N d mid pc ls (.long x :: .int j :: .ref a :: st) S Q := by
  subst hp
  refine ex_hb hM hf (fun h => pm_nocall2 rfl) rfl rfl rfl rfl (fun h => rfl) (fun ix z => by cases z) (fun h eV W K z hz => ?_)
  unfold pm_hb at hz
  dsimp only at hz
  split at hz
  · rename_i n f e
    split at hz
    · cases hz
      show ex_P N d mid (pc + 1) ls st (ex_V (pm_set h a (.inl (1, n, .inr (.inl (vp_updL f j.toNatClampNeg x)))))) Q
      rw [ex_V_sy (k := j.toNatClampNeg) (v := x) (fun j => by rw [e]; rfl) (fun j => by rw [e]; rfl) (fun j => by rw [e]; rfl) (by rw [e]; rfl), eV]
      exact kk
    · cases hz
  · cases hz
/-- bytes of the tapes, and what is kept -/
theorem ex_bast (hM : pm_Mt mid q l) {a t jx : Nat} {j x y : Int32} (hf : pm_find l pc = some (.bastore, L)) (hx : ex_bts[jx]? = some (a, t)) (hy : (if t = 2 then x.toInt8.toInt32 else x &&& 1) = y) (hp : pc + 1 = pc_q) (kk : ex_P N d mid pc_q ls st (ex_sx S a j.toNatClampNeg y) Q) : ex_P N d mid pc ls (.int x :: .int j :: .ref a :: st) S Q := by
  subst hp
  refine ex_hb hM hf (fun h => pm_nocall2 rfl) rfl rfl rfl rfl (fun h => rfl) (fun ix z => by cases z) (fun h eV W K z hz => ?_)
  obtain ⟨n0, y0, k0⟩ := K.2.2.2 (a, t) (List.mem_of_getElem? hx)
  have k0' : h.2.2 a = .inl (t, n0, y0) := k0
  unfold pm_hb at hz
  dsimp only at hz
  split at hz
  · rename_i n f e
    rw [e] at k0'; injection k0' with k1; injection k1 with k1 k2
    subst k1
    rw [if_pos rfl] at hy
    subst hy
    split at hz
    · cases hz
      show ex_P N d mid (pc + 1) ls st (ex_V (pm_set h a (.inl (2, n, .inl (upd f j.toNatClampNeg x.toInt8.toInt32))))) Q
      rw [ex_V_sx (k := j.toNatClampNeg) (v := x.toInt8.toInt32) (ex_upd_eX e) (fun j => by rw [e]; rfl) (fun j => by rw [e]; rfl) (by rw [e]; rfl), eV]
      exact kk
    · cases hz
  · rename_i n f e
    rw [e] at k0'; injection k0' with k1; injection k1 with k1 k2
    subst k1
    rw [if_neg (by decide)] at hy
    subst hy
    split at hz
    · cases hz
      show ex_P N d mid (pc + 1) ls st (ex_V (pm_set h a (.inl (3, n, .inl (upd f j.toNatClampNeg (x &&& 1)))))) Q
      rw [ex_V_sx (k := j.toNatClampNeg) (v := x &&& 1) (ex_upd_eX e) (fun j => by rw [e]; rfl) (fun j => by rw [e]; rfl) (by rw [e]; rfl), eV]
      exact kk
    · cases hz
  · cases hz
theorem ex_aast (hM : pm_Mt mid q l) {a : Nat} {j : Int32} {v : Value} {o : Option Nat} (hv : v = va_rf o) (hf : pm_find l pc = some (.aastore, L)) (hp : pc + 1 = pc_q) (kk : ex_P N d mid pc_q ls st (ex_sz S a j.toNatClampNeg o) Q) : ex_P N d mid pc ls (v :: .int j :: .ref a :: st) S Q := by
  subst hp
  subst hv
  refine ex_hb hM hf (fun h => pm_nocall2 rfl) (by cases o <;> rfl) (by cases o <;> rfl) (by cases o <;> rfl) (by cases o <;> rfl) (fun h => by cases o <;> rfl) (fun ix z => by cases z) (fun h eV W K z hz => ?_)
  unfold pm_hb at hz
  dsimp only at hz
  split at hz
  · rename_i t n f e
    have key : z = (st, pm_set h a (.inl (t, n, .inr (.inr (.inr (.inr (va_up f j.toNatClampNeg o))))))) → ex_P N d mid (pc + 1) ls z.1 (ex_V z.2) Q := by
      intro ez
      subst ez
      show ex_P N d mid (pc + 1) ls st (ex_V (pm_set h a (.inl (t, n, .inr (.inr (.inr (.inr (va_up f j.toNatClampNeg o)))))))) Q
      rw [ex_V_sz (k := j.toNatClampNeg) (v := o) (fun j => by rw [e]; rfl) (fun j => by rw [e]; rfl) (fun j => by rw [e]; rfl) (by rw [e]; rfl), eV]
      exact kk
    split at hz
    · cases o with
      | none => dsimp only [va_rf] at hz; cases hz; exact key rfl
      | some b =>
        dsimp only [va_rf] at hz
        split at hz
        · split at hz
          · cases hz; exact key rfl
          · cases hz
        · cases hz
    · cases hz
  · cases hz
theorem ex_newa (hM : pm_Mt mid q l) {at_ : ArrayType} {k : Nat} {n : Int32} (hf : pm_find l pc = some (.newarray at_, L)) (hk : pm_aty at_ = some k) (hp : pc + 2 = pc_q) (kk : ex_P N d mid pc_q ls (.ref S.2.2.2.2 :: st) (ex_new S n.toNatClampNeg) Q) : ex_P N d mid pc ls (.int n :: st) S Q := by
  subst hp
  refine ex_hb hM hf (fun h => pm_nocall2 rfl) rfl rfl rfl rfl (fun h => rfl) (fun ix z => by cases z) (fun h eV W K z hz => ?_)
  obtain ⟨k_q, e1, e⟩ := Option.bind_eq_some_iff.mp (show (pm_aty at_).bind _ = some z from hz)
  rw [hk] at e1
  cases e1
  split at e
  · cases e
    have et : h.1 = S.2.2.2.2 := by rw [← eV]; rfl
    show ex_P N d mid (pc + 2) ls (.ref h.1 :: st) (ex_V (pm_push h (.inl (k, pm_newty k n.toNatClampNeg)) n.toNatClampNeg)) Q
    rw [et, ex_V_push (n := n.toNatClampNeg), eV]
    · exact kk
    · intro j; unfold pm_newty; split <;> rfl
    · intro j; unfold pm_newty; split <;> rfl
    · intro j; unfold pm_newty; split <;> rfl
    · unfold pm_newty; split <;> rfl
  · cases e
theorem ex_newq (hM : pm_Mt mid q l) {ix ci k : Nat} {n : Int32} (hf : pm_find l pc = some (.anewarray ix, L)) (hF : pm_at pm_NL q.2.2.2.2 ix = some ci) (hk : pm_oty ci = some k) (hp : pc + 3 = pc_q) (kk : ex_P N d mid pc_q ls (.ref S.2.2.2.2 :: st) (ex_new S n.toNatClampNeg) Q) : ex_P N d mid pc ls (.int n :: st) S Q := by
  subst hp
  refine ex_hb hM hf (fun h => pm_nocall2 rfl) rfl rfl rfl rfl (fun h => rfl) (fun ix z => by cases z) (fun h eV W K z hz => ?_)
  obtain ⟨ci', e1, e⟩ := Option.bind_eq_some_iff.mp (show (pm_at pm_NL q.2.2.2.2 ix).bind _ = some z from hz)
  rw [hF] at e1
  cases e1
  obtain ⟨k_q, e1, e⟩ := Option.bind_eq_some_iff.mp e
  rw [hk] at e1
  cases e1
  split at e
  · cases e
    have et : h.1 = S.2.2.2.2 := by rw [← eV]; rfl
    show ex_P N d mid (pc + 3) ls (.ref h.1 :: st) (ex_V (pm_push h (.inl (k, pm_newty k n.toNatClampNeg)) n.toNatClampNeg)) Q
    rw [et, ex_V_push (n := n.toNatClampNeg), eV]
    · exact kk
    · intro j; unfold pm_newty; split <;> rfl
    · intro j; unfold pm_newty; split <;> rfl
    · intro j; unfold pm_newty; split <;> rfl
    · unfold pm_newty; split <;> rfl
  · cases e
theorem ex_dfI (ty : FieldType) : ex_i (some (defaultValue ty)) = 0 ∧ ex_l (some (defaultValue ty)) = 0 ∧ ex_r (some (defaultValue ty)) = none := by cases ty <;> exact ⟨rfl, rfl, rfl⟩
theorem ex_new1 (hM : pm_Mt mid q l) {ix ci : Nat} {qq : vw_C} (hf : pm_find l pc = some (.new ix, L)) (hF : pm_at pm_NL q.2.2.2.2 ix = some ci) (hk : pm_cl[ci]? = some qq) (hp : pc + 3 = pc_q) (kk : ex_P N d mid pc_q ls (.ref S.2.2.2.2 :: st) (ex_new S 0) Q) : ex_P N d mid pc ls st S Q := by
  subst hp
  refine ex_hb hM hf (fun h => pm_nocall2 rfl) (pm_noret _ (Or.inl (by show 3 ≠ 1; decide))) rfl rfl rfl (fun h => rfl) (fun ix z => by cases z) (fun h eV W K z hz => ?_)
  obtain ⟨ci', e1, e⟩ := Option.bind_eq_some_iff.mp (show (pm_at pm_NL q.2.2.2.2 ix).bind _ = some z from hz)
  rw [hF] at e1
  cases e1
  obtain ⟨k_q, e1, e⟩ := Option.map_eq_some_iff.mp e
  rw [hk] at e1
  cases e1
  cases e
  have et : h.1 = S.2.2.2.2 := by rw [← eV]; rfl
  show ex_P N d mid (pc + 3) ls (.ref h.1 :: st) (ex_V (pm_push h (.inr (ci, (List.range qq.2.2).map (fun k => defaultValue (pm_ty qq.2.1 k)))) qq.2.2)) Q
  have key : ∀ j : Nat, ((List.range qq.2.2).map (fun k => defaultValue (pm_ty qq.2.1 k)))[j]? = none ∨ ∃ ty, ((List.range qq.2.2).map (fun k => defaultValue (pm_ty qq.2.1 k)))[j]? = some (defaultValue ty) := by
    intro j
    rw [List.getElem?_map]
    cases (List.range qq.2.2)[j]? with
    | none => exact Or.inl rfl
    | some k => exact Or.inr ⟨_, rfl⟩
  rw [et, ex_V_push (n := 0), eV]
  · exact kk
  · intro j; show ex_i ((List.range qq.2.2).map (fun k => defaultValue (pm_ty qq.2.1 k)))[j]? = 0
    rcases key j with e | ⟨ty, e⟩ <;> rw [e]
    · rfl
    · exact (ex_dfI ty).1
  · intro j; show ex_l ((List.range qq.2.2).map (fun k => defaultValue (pm_ty qq.2.1 k)))[j]? = 0
    rcases key j with e | ⟨ty, e⟩ <;> rw [e]
    · rfl
    · exact (ex_dfI ty).2.1
  · intro j; show ex_r ((List.range qq.2.2).map (fun k => defaultValue (pm_ty qq.2.1 k)))[j]? = none
    rcases key j with e | ⟨ty, e⟩ <;> rw [e]
    · rfl
    · exact (ex_dfI ty).2.2
  · rfl
/-- Object() -/
theorem ex_obj (hM : pm_Mt mid q l) {ix a : Nat} (hf : pm_find l pc = some (.invokespecial ix, L)) (hn : pm_at pm_CL q.2.2.2.2 ix = none) (hp : pc + 3 = pc_q) (kk : ex_P N d mid pc_q ls st S Q) : ex_P N d mid pc ls (.ref a :: st) S Q := by
  subst hp
  refine ex_hb hM hf (fun h => pm_nocall3 rfl hn) rfl rfl rfl rfl (fun h => rfl) (fun ix z => by cases z) (fun h eV W K z hz => ?_)
  obtain ⟨k, e1, e⟩ := Option.bind_eq_some_iff.mp (show (pm_at pm_XL q.2.2.2.2 ix).bind _ = some z from hz)
  split at e
  · cases e
    show ex_P N d mid (pc + 3) ls st (ex_V h) Q
    rw [eV]; exact kk
  · cases e
theorem ex_hbm {ini : Bool} {c ix : Nat} {h : pm_H} {x y : Int32} (hX : pm_at pm_XL c ix = some 3) : pm_hb ini c (.invokestatic ix) (.int y :: .int x :: st) h = if (st.map fun v => v.category).sum ≤ 8 then some (.int (if y < x then y else x) :: st, h) else none := by
  show (pm_at pm_XL c ix).bind _ = _
  rw [hX]; rfl
theorem ex_hbx {ini : Bool} {c ix : Nat} {h : pm_H} {x y : Int32} (hX : pm_at pm_XL c ix = some 4) : pm_hb ini c (.invokestatic ix) (.int y :: .int x :: st) h = if (st.map fun v => v.category).sum ≤ 8 then some (.int (if x < y then y else x) :: st, h) else none := by
  show (pm_at pm_XL c ix).bind _ = _
  rw [hX]; rfl
theorem ex_hbl {ini : Bool} {c ix : Nat} {h : pm_H} {x y : Int64} (hX : pm_at pm_XL c ix = some 5) : pm_hb ini c (.invokestatic ix) (.long y :: .long x :: st) h = if (st.map fun v => v.category).sum ≤ 8 then some (.long (if y < x then y else x) :: st, h) else none := by
  show (pm_at pm_XL c ix).bind _ = _
  rw [hX]; rfl
theorem ex_min (hM : pm_Mt mid q l) {ix : Nat} {x y : Int32} (hf : pm_find l pc = some (.invokestatic ix, L)) (hn : pm_at pm_CL q.2.2.2.2 ix = none) (hX : pm_at pm_XL q.2.2.2.2 ix = some 3) (hp : pc + 3 = pc_q) (kk : ex_P N d mid pc_q ls (.int (if y < x then y else x) :: st) S Q) : ex_P N d mid pc ls (.int y :: .int x :: st) S Q := by
  subst hp
  refine ex_hb hM hf (fun h => pm_nocall3 rfl hn) rfl rfl rfl rfl (fun h => rfl) (fun ix z => by cases z) (fun h eV W K z hz => ?_)
  rw [ex_hbm hX] at hz
  split at hz
  · cases hz
    show ex_P N d mid (pc + 3) ls (.int (if y < x then y else x) :: st) (ex_V h) Q
    rw [eV]; exact kk
  · cases hz
theorem ex_max (hM : pm_Mt mid q l) {ix : Nat} {x y : Int32} (hf : pm_find l pc = some (.invokestatic ix, L)) (hn : pm_at pm_CL q.2.2.2.2 ix = none) (hX : pm_at pm_XL q.2.2.2.2 ix = some 4) (hp : pc + 3 = pc_q) (kk : ex_P N d mid pc_q ls (.int (if x < y then y else x) :: st) S Q) : ex_P N d mid pc ls (.int y :: .int x :: st) S Q := by
  subst hp
  refine ex_hb hM hf (fun h => pm_nocall3 rfl hn) rfl rfl rfl rfl (fun h => rfl) (fun ix z => by cases z) (fun h eV W K z hz => ?_)
  rw [ex_hbx hX] at hz
  split at hz
  · cases hz
    show ex_P N d mid (pc + 3) ls (.int (if x < y then y else x) :: st) (ex_V h) Q
    rw [eV]; exact kk
  · cases hz
theorem ex_minl (hM : pm_Mt mid q l) {ix : Nat} {x y : Int64} (hf : pm_find l pc = some (.invokestatic ix, L)) (hn : pm_at pm_CL q.2.2.2.2 ix = none) (hX : pm_at pm_XL q.2.2.2.2 ix = some 5) (hp : pc + 3 = pc_q) (kk : ex_P N d mid pc_q ls (.long (if y < x then y else x) :: st) S Q) : ex_P N d mid pc ls (.long y :: .long x :: st) S Q := by
  subst hp
  refine ex_hb hM hf (fun h => pm_nocall3 rfl hn) rfl rfl rfl rfl (fun h => rfl) (fun ix z => by cases z) (fun h eV W K z hz => ?_)
  rw [ex_hbl hX] at hz
  split at hz
  · cases hz
    show ex_P N d mid (pc + 3) ls (.long (if y < x then y else x) :: st) (ex_V h) Q
    rw [eV]; exact kk
  · cases hz
theorem ex_V_cp {h : pm_H} {a b sp dp n t n1 : Nat} {f g : Nat → Int32} {t0 n0 : Nat} (ha : h.2.2 a = .inl (t0, n0, .inl f)) (hb : h.2.2 b = .inl (t, n1, .inl g)) : ex_V (pm_set h b (.inl (t, n1, .inl (va_cpy f g sp dp n)))) = ex_cp (ex_V h) a sp b dp n := by
  refine ex_V_set (fun c j => ?_) (fun c j => ?_) (fun c j => ?_) (fun c => ?_) rfl
  · show (if c = b ∧ dp ≤ j ∧ j < dp + n then ex_eX (h.2.2 a) (sp + (j - dp)) else ex_eX (h.2.2 c) j) = _
    by_cases hc : c = b
    · subst hc; rw [if_pos rfl, ha, hb]; show _ = (if dp ≤ j ∧ j < dp + n then f (sp + (j - dp)) else g j)
      by_cases hj : dp ≤ j ∧ j < dp + n
      · rw [if_pos ⟨rfl, hj⟩, if_pos hj]; rfl
      · rw [if_neg (fun z => hj z.2), if_neg hj]; rfl
    · rw [if_neg hc, if_neg (fun z => hc z.1)]
  · show ex_eY (h.2.2 c) j = _
    by_cases hc : c = b
    · subst hc; rw [if_pos rfl, hb]; rfl
    · rw [if_neg hc]
  · show ex_eZ (h.2.2 c) j = _
    by_cases hc : c = b
    · subst hc; rw [if_pos rfl, hb]; rfl
    · rw [if_neg hc]
  · show ex_eL (h.2.2 c) = _
    by_cases hc : c = b
    · subst hc; rw [if_pos rfl, hb]; rfl
    · rw [if_neg hc]
def ex_cpf (h : pm_H) (a b : Nat) (sp dp n : Int32) (st : List Value) : Option (List Value × pm_H) := match h.2.2 a, h.2.2 b with
  | .inl (0, n0, .inl f), .inl (0, n1, .inl g) => if 16 ≤ a ∧ a < h.1 ∧ 16 ≤ b ∧ b < h.1 ∧ ¬ sp < 0 ∧ ¬ dp < 0 ∧ ¬ n < 0 ∧ sp.toNatClampNeg + n.toNatClampNeg ≤ n0 ∧ dp.toNatClampNeg + n.toNatClampNeg ≤ n1 ∧ (st.map fun v => v.category).sum ≤ 8 then some (st, pm_set h b (.inl (0, n1, .inl (va_cpy f g sp.toNatClampNeg dp.toNatClampNeg n.toNatClampNeg)))) else none
  | .inl (2, n0, .inl f), .inl (2, n1, .inl g) => if 16 ≤ a ∧ a < h.1 ∧ 16 ≤ b ∧ b < h.1 ∧ ¬ sp < 0 ∧ ¬ dp < 0 ∧ ¬ n < 0 ∧ sp.toNatClampNeg + n.toNatClampNeg ≤ n0 ∧ dp.toNatClampNeg + n.toNatClampNeg ≤ n1 ∧ (st.map fun v => v.category).sum ≤ 8 then some (st, pm_set h b (.inl (2, n1, .inl (va_cpy f g sp.toNatClampNeg dp.toNatClampNeg n.toNatClampNeg)))) else none
  | _, _ => none
theorem ex_hbc {ini : Bool} {c ix a b : Nat} {h : pm_H} {n dp sp : Int32} (hX : pm_at pm_XL c ix = some 1) : pm_hb ini c (.invokestatic ix) (.int n :: .int dp :: .ref b :: .int sp :: .ref a :: st) h = ex_cpf h a b sp dp n st := by
  show (pm_at pm_XL c ix).bind _ = _
  rw [hX]; rfl
theorem ex_copy (hM : pm_Mt mid q l) {ix a b : Nat} {n dp sp : Int32} (hf : pm_find l pc = some (.invokestatic ix, L)) (hn : pm_at pm_CL q.2.2.2.2 ix = none) (hX : pm_at pm_XL q.2.2.2.2 ix = some 1) (hp : pc + 3 = pc_q) (kk : ex_P N d mid pc_q ls st (ex_cp S a sp.toNatClampNeg b dp.toNatClampNeg n.toNatClampNeg) Q) : ex_P N d mid pc ls (.int n :: .int dp :: .ref b :: .int sp :: .ref a :: st) S Q := by
  subst hp
  refine ex_hb hM hf (fun h => pm_nocall3 rfl hn) rfl rfl rfl rfl (fun h => rfl) (fun ix z => by cases z) (fun h eV W K z hz => ?_)
  rw [ex_hbc hX] at hz
  unfold ex_cpf at hz
  split at hz
  · rename_i ea eb
    split at hz
    · cases hz
      show ex_P N d mid (pc + 3) ls st (ex_V (pm_set h b _)) Q
      rw [ex_V_cp ea eb, eV]; exact kk
    · cases hz
  · rename_i ea eb
    split at hz
    · cases hz
      show ex_P N d mid (pc + 3) ls st (ex_V (pm_set h b _)) Q
      rw [ex_V_cp ea eb, eV]; exact kk
    · cases hz
  · cases hz
theorem ex_getI' (hM : pm_Mt mid q l) {ix a ci k : Nat} {nb : Bool} {v : Int32} (hf : pm_find l pc = some (.getfield ix, L)) (hF : pm_at pm_FL q.2.2.2.2 ix = some (ci, k, nb)) (h8 : Nat.beq q.2.2.2.2 8 = false) (ht : ex_ft ci k = 0) (hp : pc + 3 = pc_q) (hv : S.1 a k = v) (kk : ex_P N d mid pc_q ls (.int v :: st) S Q) : ex_P N d mid pc ls (.ref a :: st) S Q := ex_getI hM hf hF h8 ht hp (by rw [hv]; exact kk)
theorem ex_getL' (hM : pm_Mt mid q l) {ix a ci k : Nat} {nb : Bool} {v : Int64} (hf : pm_find l pc = some (.getfield ix, L)) (hF : pm_at pm_FL q.2.2.2.2 ix = some (ci, k, nb)) (h8 : Nat.beq q.2.2.2.2 8 = false) (ht : ex_ft ci k = 1) (hp : pc + 3 = pc_q) (hv : S.2.1 a k = v) (kk : ex_P N d mid pc_q ls (.long v :: st) S Q) : ex_P N d mid pc ls (.ref a :: st) S Q := ex_getL hM hf hF h8 ht hp (by rw [hv]; exact kk)
theorem ex_getR' (hM : pm_Mt mid q l) {ix a ci k : Nat} {nb : Bool} {v : Option Nat} (hf : pm_find l pc = some (.getfield ix, L)) (hF : pm_at pm_FL q.2.2.2.2 ix = some (ci, k, nb)) (h8 : Nat.beq q.2.2.2.2 8 = false) (ht : ex_ft ci k = 2) (hp : pc + 3 = pc_q) (hv : S.2.2.1 a k = v) (kk : ex_P N d mid pc_q ls (va_rf v :: st) S Q) : ex_P N d mid pc ls (.ref a :: st) S Q := ex_getR hM hf hF h8 ht hp (by rw [hv]; exact kk)
theorem ex_iald' (hM : pm_Mt mid q l) {a : Nat} {j v : Int32} (hf : pm_find l pc = some (.iaload, L)) (hp : pc + 1 = pc_q) (hv : S.1 a j.toNatClampNeg = v) (kk : ex_P N d mid pc_q ls (.int v :: st) S Q) : ex_P N d mid pc ls (.int j :: .ref a :: st) S Q := ex_iald hM hf hp (by rw [hv]; exact kk)
theorem ex_bald' (hM : pm_Mt mid q l) {a : Nat} {j v : Int32} (hf : pm_find l pc = some (.baload, L)) (hp : pc + 1 = pc_q) (hv : S.1 a j.toNatClampNeg = v) (kk : ex_P N d mid pc_q ls (.int v :: st) S Q) : ex_P N d mid pc ls (.int j :: .ref a :: st) S Q := ex_bald hM hf hp (by rw [hv]; exact kk)
theorem ex_lald' (hM : pm_Mt mid q l) {a : Nat} {j : Int32} {v : Int64} (hf : pm_find l pc = some (.laload, L)) (hp : pc + 1 = pc_q) (hv : S.2.1 a j.toNatClampNeg = v) (kk : ex_P N d mid pc_q ls (.long v :: st) S Q) : ex_P N d mid pc ls (.int j :: .ref a :: st) S Q := ex_lald hM hf hp (by rw [hv]; exact kk)
theorem ex_aald' (hM : pm_Mt mid q l) {a : Nat} {j : Int32} {v : Option Nat} (hf : pm_find l pc = some (.aaload, L)) (hp : pc + 1 = pc_q) (hv : S.2.2.1 a j.toNatClampNeg = v) (kk : ex_P N d mid pc_q ls (va_rf v :: st) S Q) : ex_P N d mid pc ls (.int j :: .ref a :: st) S Q := ex_aald hM hf hp (by rw [hv]; exact kk)
/-- tables and words that were there before -/
def ex_st (a j : Nat) : Int32 := ex_eX (pm_f0 false 0 (fun _ => 0) a) j
def ex_KV (S : ex_S) : Prop := ∀ a, 1 ≤ a → a < 15 → (∀ j, S.1 a j = ex_st a j) ∧ S.2.2.2.1 a = ex_eL (pm_f0 false 0 (fun _ => 0) a)
theorem ex_kw (k : ex_KV S → ex_P N d mid pc ls st S Q) : ex_P N d mid pc ls st S Q := by
  intro h eV W K n hn x hx
  refine k (fun a a1 a2 => ?_) h eV W K n hn x hx
  subst eV
  refine ⟨fun j => ?_, ?_⟩
  · show ex_eX (h.2.2 a) j = _
    rw [K.1 a a1 a2]; rfl
  · show ex_eL (h.2.2 a) = _
    rw [K.1 a a1 a2]
theorem ex_iaK (hM : pm_Mt mid q l) {a : Nat} {j v : Int32} (hf : pm_find l pc = some (.iaload, L)) (h1 : 1 ≤ a) (h2 : a < 15) (hp : pc + 1 = pc_q) (hv : ex_st a j.toNatClampNeg = v) (kk : ex_P N d mid pc_q ls (.int v :: st) S Q) : ex_P N d mid pc ls (.int j :: .ref a :: st) S Q := ex_kw (fun kv => ex_iald hM hf hp (by rw [(kv a h1 h2).1, hv]; exact kk))
/-- a road that only throws -/
theorem ex_dead (hM : pm_Mt mid q l) (hf : pm_find l pc = none) : ex_P N d mid pc ls st S Q := by
  intro h eV W K n hn x hx
  match n, hn, hx with
  | 0, _, hx => cases hx
  | n + 1, hn, hx =>
    unfold pm_run at hx
    have e : pm_code mid pc = none := by unfold pm_code; rw [hM.2]; exact hf
    rw [hM.1, e] at hx
    cases hx
theorem ex_retI (hM : pm_Mt mid q l) {v : Int32} (hf : pm_find l pc = some (.ireturn, L)) (k : Q (some (.int v)) S) : ex_P N d mid pc ls [.int v] S Q := by
  intro h eV W K n hn x hx
  match n, hn, hx with
  | 0, _, hx => cases hx
  | n + 1, hn, hx =>
    unfold pm_run at hx
    rw [hM.1, hM.code hf] at hx
    dsimp only at hx
    have e : pm_ret q.2.2.2.1 .ireturn [.int v] = some (some (.int v)) ∨ pm_ret q.2.2.2.1 .ireturn [.int v] = none := by
      cases q.2.2.2.1 with
      | none => exact Or.inr rfl
      | some ty =>
        show (if _ then _ else _) = _ ∨ (if _ then _ else _) = _
        split
        · exact Or.inl rfl
        · exact Or.inr rfl
    rcases e with e | e
    · rw [e] at hx
      dsimp only at hx
      cases hx
      refine ⟨W, K, ?_⟩
      show Q (some (.int v)) (ex_V h)
      rw [eV]; exact k
    · rw [e] at hx
      dsimp only at hx
      rw [pm_nocall2 rfl] at hx
      dsimp only at hx
      have e2 : pm_step (decide (q.1.name = "<init>")) q.2.2.2.2 .ireturn pc ls [.int v] h = none := rfl
      rw [e2] at hx
      cases hx
theorem ex_tswD {dd lo hi : Int} {offs : Array Int} {x : Int32} {z : Nat × List Value} (hz : pm_br (.tableswitch dd lo hi offs) pc (.int x :: st) = some z) (hx : x.toInt < lo ∨ hi < x.toInt) : (pm_to pc dd).map (fun t => (t, st)) = some z := by
  have e : (if x.toInt < lo ∨ hi < x.toInt then (pm_to pc dd).map (fun t => (t, st)) else (offs[(x.toInt - lo).toNat]?).bind (fun o => (pm_to pc o).map (fun t => (t, st)))) = some z := hz
  rw [if_pos hx] at e; exact e
theorem ex_lswD {dd a b oa ob : Int} {x : Int32} {z : Nat × List Value} (hz : pm_br (.lookupswitch dd #[(a, oa), (b, ob)]) pc (.int x :: st) = some z) (hx : ¬ a = x.toInt ∧ ¬ b = x.toInt) : (pm_to pc dd).map (fun t => (t, st)) = some z := by
  have e : (if ((#[(a, oa), (b, ob)] : Array (Int × Int)).toList.zip ((#[(a, oa), (b, ob)] : Array (Int × Int)).toList.drop 1)).all (fun (a, next) => a.1 < next.1) = true then (pm_to pc (Op.lookupswitch.offset [(a, oa), (b, ob)] dd x.toInt)).map (fun t => (t, st)) else none) = some z := hz
  split at e
  · rw [Op.lookupswitch.offset_cons, if_neg hx.1, Op.lookupswitch.offset_cons, if_neg hx.2, Op.lookupswitch.offset_nil] at e; exact e
  · cases e
/-- what a String constant is made of -/
theorem ex_strg (hM : pm_Mt mid q l) {ix a : Nat} {v : Value} (hf : pm_find l pc = some (.getfield ix, L)) (hc : q.2.2.2.2 = 8) (hF : pm_at pm_FL 8 ix = none) (hv : (ix = 9 ∧ v = .ref (a + 4)) ∨ (ix = 15 ∧ v = .int 0)) (hp : pc + 3 = pc_q) (kk : ex_P N d mid pc_q ls (v :: st) S Q) : ex_P N d mid pc ls (.ref a :: st) S Q := by
  subst hp
  refine ex_hp hM hf (fun h => pm_nocall2 rfl) rfl rfl rfl rfl (fun h eV W K z hz => ?_)
  rcases pm_hp_cases hz with hz | ⟨s, hz, e⟩
  · exfalso
    have e : none = some z := by
      rw [← hz]; show _ = (pm_gf q.2.2.2.2 ix h a).map _
      unfold pm_gf; rw [hc, hF]; rfl
    cases e
  · have e2 : (if q.2.2.2.2 = 8 ∧ 7 ≤ a ∧ a < 11 ∧ ix = 9 then some (Value.ref (a + 4) :: st) else if q.2.2.2.2 = 8 ∧ 7 ≤ a ∧ a < 11 ∧ ix = 15 then some (Value.int 0 :: st) else none) = some s := hz
    subst e
    refine ⟨W, K, ?_⟩
    show ex_P N d mid (pc + 3) ls s (ex_V h) Q
    rw [eV]
    rcases hv with ⟨rfl, rfl⟩ | ⟨rfl, rfl⟩
    · split at e2
      · cases e2; exact kk
      · rw [if_neg (fun w => absurd w.2.2.2 (by decide))] at e2; cases e2
    · rw [if_neg (fun w => absurd w.2.2.2 (by decide))] at e2
      split at e2
      · cases e2; exact kk
      · cases e2
theorem ex_strs (hM : pm_Mt mid q l) {ix : Nat} (hf : pm_find l pc = some (.getstatic ix, L)) (hc : q.2.2.2.2 = 8) (hF : pm_at pm_SL 8 ix = none) (hp : pc + 3 = pc_q) (k1 : ix = 38 → ex_P N d mid pc_q ls (.int 1 :: st) S Q) (k2 : ix = 1053 → ∀ v, (v = .null ∨ v = .ref 15) → ex_P N d mid pc_q ls (v :: st) S Q) : ex_P N d mid pc ls st S Q := by
  subst hp
  refine ex_hp hM hf (fun h => pm_nocall2 rfl) (pm_noret _ (Or.inl (by show 3 ≠ 1; decide))) rfl rfl rfl (fun h eV W K z hz => ?_)
  rcases pm_hp_cases hz with hz | ⟨s, hz, e⟩
  · exfalso
    have e : none = some z := by
      rw [← hz]; show _ = (pm_at pm_SL q.2.2.2.2 ix).map _
      rw [hc, hF]; rfl
    cases e
  · have e2 : (if q.2.2.2.2 = 8 ∧ ix = 38 then some (Value.int 1 :: st) else if q.2.2.2.2 = 8 ∧ ix = 1053 then some (pm_fmt h :: st) else none) = some s := hz
    subst e
    refine ⟨W, K, ?_⟩
    show ex_P N d mid (pc + 3) ls s (ex_V h) Q
    rw [eV]
    split at e2
    · rename_i w; cases e2; exact k1 w.2
    · split at e2
      · rename_i w; cases e2
        refine k2 w.2 _ ?_
        unfold pm_fmt; split
        · exact Or.inl rfl
        · exact Or.inr rfl
      · cases e2
theorem ex_noX {ini : Bool} {c ix : Nat} {h : pm_H} (hi : pm_cix i = some ix) (hX : pm_at pm_XL c ix = none) : pm_step ini c i pc ls st h = none := by
  have fin : ∀ j : Instr, pm_op j st = none → pm_lo j ls st = none → pm_br j pc st = none → pm_hb ini c j st h = none → pm_str c j st h = none → pm_step ini c j pc ls st h = none := by
    intro j a1 a2 a3 a4 a5
    have a6 : pm_hp ini c j st h = none := by unfold pm_hp; rw [a4, a5]; rfl
    unfold pm_step
    rw [a1, a2, a3, a6]
  unfold pm_cix at hi
  split at hi
  · cases hi
    refine fin _ rfl rfl rfl ?_ rfl
    cases st with
    | nil => rfl
    | cons v st => cases v <;> first | (show (pm_at pm_XL c ix).bind _ = none; rw [hX]; rfl) | rfl
  · cases hi
    refine fin _ rfl rfl rfl ?_ rfl
    cases st with
    | nil => rfl
    | cons v st => cases v <;> first | (show (pm_at pm_XL c ix).bind _ = none; rw [hX]; rfl) | rfl
  · cases hi
    refine fin _ rfl rfl rfl ?_ rfl
    show (pm_at pm_XL c ix).bind _ = none
    rw [hX]; rfl
  · cases hi
/-- a call of what is not there -/
theorem ex_nc (hM : pm_Mt mid q l) {ix : Nat} (hf : pm_find l pc = some (i, L)) (hi : pm_cix i = some ix) (hC : pm_at pm_CL q.2.2.2.2 ix = none) (hX : pm_at pm_XL q.2.2.2.2 ix = none) : ex_P N d mid pc ls st S Q := by
  refine (ex_step hM hf (pm_noret _ (Or.inl ?_)) (fun h => pm_nocall3 hi hC) (fun h eV W K z hz => ?_)).weak
  · unfold pm_cix at hi
    split at hi <;> first | (intro hh; cases hh; done) | cases hi
  · rw [ex_noX hi hX] at hz; cases hz
/-- a call of a method of the list -/
theorem ex_call (hM : pm_Mt mid q l) {ix callee np kd : Nat} {ra rest ls_q : List Value} {qc : pm_M} {lc : List (Nat × Instr × Nat)} (hf : pm_find l pc = some (i, L)) (hi : pm_ix i kd = some ix) (hC : pm_at pm_CL q.2.2.2.2 ix = some (callee, np, kd)) (hX : pm_at pm_XL q.2.2.2.2 ix = none) (hMc : pm_Mt callee qc lc) (hst : st = ra ++ rest) (hl : ra.length = (if kd = 2 ∨ kd = 5 then np else np + 1)) (he : pm_ent qc.2.2.1 ra.reverse = some ls_q) (hp : pc + 3 = pc_q) (kk : ∀ d', ex_P N d' callee 0 ls_q [] S (fun r S_q => ex_P N d mid pc_q ls (r.toList ++ rest) S_q Q)) : ex_P N d mid pc ls st S Q := by
  subst hp
  intro h eV W K n hn x hx
  match n, hn, hx with
  | 0, _, hx => cases hx
  | n + 1, hn, hx =>
    unfold pm_run at hx
    rw [hM.1, hM.code hf] at hx
    dsimp only at hx
    rw [pm_noret_call hi] at hx
    dsimp only at hx
    split at hx
    · rename_i callee' args rest' hc
      have hcix : pm_cix i = some ix := by
        unfold pm_ix at hi
        split at hi <;> first | exact hi | cases hi
      obtain ⟨rfl, rfl, rfl⟩ : callee' = callee ∧ args = ra.reverse ∧ rest' = rest := by
        unfold pm_call at hc
        rw [hcix] at hc
        obtain ⟨ix', c1, hc⟩ := Option.bind_eq_some_iff.mp hc
        cases c1
        obtain ⟨y, c1, hc⟩ := Option.bind_eq_some_iff.mp hc
        rw [hC] at c1
        cases c1
        obtain ⟨q', c1, hc⟩ := Option.bind_eq_some_iff.mp hc
        dsimp only at hc
        generalize (if kd = 2 ∨ kd = 5 then np else np + 1) = kk0 at hc hl
        split at hc
        · cases hc
          rw [hst, ← hl, List.take_left, List.drop_left]
          exact ⟨rfl, rfl, rfl⟩
        · cases hc
      cases d with
      | zero => rw [hMc.1] at hx; cases hx
      | succ d' =>
        rw [hMc.1] at hx
        dsimp only at hx
        rw [he] at hx
        dsimp only at hx
        split at hx
        · rename_i r h_q hr
          obtain ⟨W', K', P'⟩ := kk d' h eV W K n (by omega) _ hr
          exact P' h_q rfl W' K' n (by omega) x hx
        · cases hx
    · have hcix : pm_cix i = some ix := by
        unfold pm_ix at hi
        split at hi <;> first | exact hi | cases hi
      rw [ex_noX hcix hX] at hx
      cases hx
end EXR
end
section
/-! ROWS over references that may be null; clone, casts -/
/-- a new cell that holds what cell a holds -/
def ex_cl (S : ex_S) (a : Nat) : ex_S := (fun b j => if b = S.2.2.2.2 then S.1 a j else S.1 b j, fun b j => if b = S.2.2.2.2 then 0 else S.2.1 b j, fun b j => if b = S.2.2.2.2 then none else S.2.2.1 b j, fun b => if b = S.2.2.2.2 then S.2.2.2.1 a else S.2.2.2.1 b, S.2.2.2.2 + 1)
theorem ex_V_cl {h : pm_H} {a n s : Nat} {f : Nat → Int32} (ha : h.2.2 a = .inl (0, n, .inl f)) : ex_V (pm_push h (.inl (0, n, .inl f)) s) = ex_cl (ex_V h) a := by
  have q : ∀ b, (pm_push h (.inl (0, n, .inl f)) s).2.2 b = if b = h.1 then .inl (0, n, .inl f) else h.2.2 b := fun _ => rfl
  refine Prod.ext ?_ (Prod.ext ?_ (Prod.ext ?_ (Prod.ext ?_ rfl)))
  · funext b j
    show ex_eX ((pm_push h (.inl (0, n, .inl f)) s).2.2 b) j = if b = h.1 then ex_eX (h.2.2 a) j else ex_eX (h.2.2 b) j
    rw [q, ha]; by_cases hb : b = h.1
    · rw [if_pos hb, if_pos hb]
    · rw [if_neg hb, if_neg hb]
  · funext b j
    show ex_eY ((pm_push h (.inl (0, n, .inl f)) s).2.2 b) j = if b = h.1 then 0 else ex_eY (h.2.2 b) j
    rw [q]; by_cases hb : b = h.1
    · rw [if_pos hb, if_pos hb]; rfl
    · rw [if_neg hb, if_neg hb]
  · funext b j
    show ex_eZ ((pm_push h (.inl (0, n, .inl f)) s).2.2 b) j = if b = h.1 then none else ex_eZ (h.2.2 b) j
    rw [q]; by_cases hb : b = h.1
    · rw [if_pos hb, if_pos hb]; rfl
    · rw [if_neg hb, if_neg hb]
  · funext b
    show ex_eL ((pm_push h (.inl (0, n, .inl f)) s).2.2 b) = if b = h.1 then ex_eL (h.2.2 a) else ex_eL (h.2.2 b)
    rw [q, ha]; by_cases hb : b = h.1
    · rw [if_pos hb, if_pos hb]
    · rw [if_neg hb, if_neg hb]
section EXN
variable {N d mid pc pc_q : Nat} {ls st : List Value} {S : ex_S} {Q : Option Value → ex_S → Prop} {q : pm_M} {l : List (Nat × Instr × Nat)} {i : Instr} {L : Nat}
theorem ex_oc {o : Option Nat} (k0 : o = none → ex_P N d mid pc ls st S Q) (k1 : ∀ b, o = some b → ex_P N d mid pc ls st S Q) : ex_P N d mid pc ls st S Q := by
  have key : ∀ o_q : Option Nat, o = o_q → ex_P N d mid pc ls st S Q := fun o_q => match o_q with
    | none => fun e => k0 e
    | some b => fun e => k1 b e
  exact key o rfl
theorem ex_stc {st_q : List Value} (e : st = st_q) (k : ex_P N d mid pc ls st_q S Q) : ex_P N d mid pc ls st S Q := by subst e; exact k
theorem ex_nul (hM : pm_Mt mid q l) (hf : pm_find l pc = some (i, L)) (hc : ∀ h, pm_call q.2.2.2.2 i st h = none) (hr : pm_ret q.2.2.2.1 i st = none) (h1 : pm_op i st = none) (h2 : pm_lo i ls st = none) (h3 : pm_br i pc st = none) (h4 : ∀ a b h, pm_hp a b i st h = none) : ex_P N d mid pc ls st S Q :=
  ex_hp hM hf hc hr h1 h2 h3 (fun h _ _ _ z hz => by rw [h4] at hz; cases hz)
theorem ex_K_put {ini : Bool} {c ix a : Nat} {h h_q : pm_H} {v : Value} (hv : pm_pf ini c ix h a v = some h_q) (ha : 72 ≤ a) (K : ex_K h) : ex_K h_q := by
  obtain ⟨ci, k, nb, fs, q, e1, e2, e3, e4, e5, e6, e7, e8⟩ := ex_pf hv
  subst e8
  obtain ⟨k1, k2, k3, k4⟩ := K
  refine ⟨fun b b1 b2 => by rw [ex_set_at, if_neg (by omega)]; exact k1 b b1 b2, k2, fun t ht => ?_, fun t ht => ?_⟩
  · obtain ⟨fs_q, f1, f2⟩ := k3 t ht
    have := ex_tab_lt t ht
    rw [ex_set_at, if_neg (by omega)]; exact ⟨fs_q, f1, f2⟩
  · obtain ⟨n, w, f1⟩ := k4 t ht
    have := ex_bts_lt t ht
    rw [ex_set_at, if_neg (by omega)]; exact ⟨n, w, f1⟩
theorem ex_top (k : 72 ≤ S.2.2.2.2 → ex_P N d mid pc ls st S Q) : ex_P N d mid pc ls st S Q := fun h eV W K n hn x hx => k (by rw [← eV]; exact K.2.1) h eV W K n hn x hx
theorem ex_put7 (hM : pm_Mt mid q l) {ix a ci k : Nat} {nb : Bool} {v : Value} (hf : pm_find l pc = some (.putfield ix, L)) (hF : pm_at pm_FL q.2.2.2.2 ix = some (ci, k, nb)) (hr : pm_ret q.2.2.2.1 (.putfield ix) (v :: .ref a :: st) = none) (ha : 72 ≤ a) (kk : ∀ h, ex_V h = S → ∀ fs v0, h.2.2 a = .inr (ci, fs) → k < fs.length → fs[k]? = some v0 → ex_kv (ex_ft ci k) v0 → ex_kv (ex_ft ci k) v → ex_P N d mid (pc + 3) ls st (ex_V (pm_set h a (.inr (ci, fs.set k v)))) Q) : ex_P N d mid pc ls (v :: .ref a :: st) S Q := by
  refine ex_hp hM hf (fun h => pm_nocall2 rfl) hr rfl rfl rfl (fun h eV W K z hz => ?_)
  rcases pm_hp_cases hz with hz | ⟨s, hz, _⟩
  · obtain ⟨h_q, hv, e⟩ := Option.map_eq_some_iff.mp (show (pm_pf (decide (q.1.name = "<init>")) q.2.2.2.2 ix h a v).map (fun h => (st, h)) = some z from hz)
    subst e
    refine ⟨ex_W_ch (ex_hb_ch hz) W, ex_K_put hv ha K, ?_⟩
    obtain ⟨ci', k_q, nb', fs, qq, e1, e2, e3, e4, e5, e6, e7, e8⟩ := ex_pf hv
    rw [hF] at e1
    cases e1
    subst e8
    exact kk h eV fs fs[k] e3 e6 (List.getElem?_eq_getElem e6) (W a ci fs e3 e4 e5 k _ (List.getElem?_eq_getElem e6)) (ex_fit e2 e7)
  · cases (show (none : Option (List Value)) = some s from hz)
theorem ex_putI7 (hM : pm_Mt mid q l) {ix a ci k : Nat} {nb : Bool} {x : Int32} (hf : pm_find l pc = some (.putfield ix, L)) (hF : pm_at pm_FL q.2.2.2.2 ix = some (ci, k, nb)) (ha : 72 ≤ a) (ht : ex_ft ci k = 0) (hp : pc + 3 = pc_q) (kk : ex_P N d mid pc_q ls st (ex_sx S a k x) Q) : ex_P N d mid pc ls (.int x :: .ref a :: st) S Q := by
  subst hp
  refine ex_put7 hM hf hF rfl ha (fun h eV fs v0 g1 g2 g3 w w_q => ?_)
  rw [ht] at w
  obtain ⟨y, rfl⟩ := w
  rw [ex_V_sx (k := k) (v := x), eV]
  · exact kk
  · intro j; rw [g1]; show ex_i (fs.set k (.int x))[j]? = if j = k then x else ex_i fs[j]?
    rw [ex_setget g2]; split <;> rfl
  · intro j; rw [g1]; show ex_l (fs.set k (.int x))[j]? = ex_l fs[j]?
    rw [ex_setget g2]; split
    · rename_i e; rw [e, g3]; rfl
    · rfl
  · intro j; rw [g1]; show ex_r (fs.set k (.int x))[j]? = ex_r fs[j]?
    rw [ex_setget g2]; split
    · rename_i e; rw [e, g3]; rfl
    · rfl
  · rw [g1]; rfl
theorem ex_putR7 (hM : pm_Mt mid q l) {ix a ci k : Nat} {nb : Bool} {v : Value} {x : Option Nat} (hv : v = va_rf x) (hf : pm_find l pc = some (.putfield ix, L)) (hF : pm_at pm_FL q.2.2.2.2 ix = some (ci, k, nb)) (ha : 72 ≤ a) (ht : ex_ft ci k = 2) (hp : pc + 3 = pc_q) (kk : ex_P N d mid pc_q ls st (ex_sz S a k x) Q) : ex_P N d mid pc ls (v :: .ref a :: st) S Q := by
  subst hp
  subst hv
  refine ex_put7 hM hf hF rfl ha (fun h eV fs v0 g1 g2 g3 w w_q => ?_)
  rw [ht] at w
  obtain ⟨y, rfl⟩ := w
  rw [ex_V_sz (k := k) (v := x), eV]
  · exact kk
  · intro j; rw [g1]; show ex_i (fs.set k (va_rf x))[j]? = ex_i fs[j]?
    rw [ex_setget g2]; split
    · rename_i e; rw [e, g3]; cases x <;> cases y <;> rfl
    · rfl
  · intro j; rw [g1]; show ex_l (fs.set k (va_rf x))[j]? = ex_l fs[j]?
    rw [ex_setget g2]; split
    · rename_i e; rw [e, g3]; cases x <;> cases y <;> rfl
    · rfl
  · intro j; rw [g1]; show ex_r (fs.set k (va_rf x))[j]? = if j = k then x else ex_r fs[j]?
    rw [ex_setget g2]; split
    · cases x <;> rfl
    · rfl
  · rw [g1]; rfl
theorem ex_clone (hM : pm_Mt mid q l) {ix a : Nat} (hf : pm_find l pc = some (.invokevirtual ix, L)) (hn : pm_at pm_CL q.2.2.2.2 ix = none) (hp : pc + 3 = pc_q) (kk : ex_P N d mid pc_q ls (.ref S.2.2.2.2 :: st) (ex_cl S a) Q) : ex_P N d mid pc ls (.ref a :: st) S Q := by
  subst hp
  refine ex_hb hM hf (fun h => pm_nocall3 rfl hn) rfl rfl rfl rfl (fun h => rfl) (fun ix z => by cases z) (fun h eV W K z hz => ?_)
  unfold pm_hb at hz
  dsimp only at hz
  obtain ⟨k, e1, e⟩ := Option.bind_eq_some_iff.mp hz
  split at e
  · rename_i ea
    split at e
    · cases e
      show ex_P N d mid (pc + 3) ls (.ref (ex_V h).2.2.2.2 :: st) (ex_V (pm_push h _ _)) Q
      rw [ex_V_cl ea, eV]; exact kk
    · cases e
  · cases e
/-- clone of null -/
theorem ex_nulX (hM : pm_Mt mid q l) {ix : Nat} (hf : pm_find l pc = some (.invokevirtual ix, L)) (hn : pm_at pm_CL q.2.2.2.2 ix = none) (_hp : pc + 3 = pc + 3) : ex_P N d mid pc ls (.null :: st) S Q :=
  ex_nul hM hf (fun h => pm_nocall3 rfl hn) rfl rfl rfl rfl (fun _ _ _ => rfl)
/-- arraycopy into null, out of null -/
theorem ex_cpn1 (hM : pm_Mt mid q l) {ix : Nat} {n dp sp : Int32} {v : Value} (hf : pm_find l pc = some (.invokestatic ix, L)) (hn : pm_at pm_CL q.2.2.2.2 ix = none) (hX : pm_at pm_XL q.2.2.2.2 ix = some 1) : ex_P N d mid pc ls (.int n :: .int dp :: .null :: .int sp :: v :: st) S Q := by
  refine ex_hb hM hf (fun h => pm_nocall3 rfl hn) rfl rfl rfl rfl (fun h => rfl) (fun ix z => by cases z) (fun h eV W K z hz => ?_)
  have e : pm_hb (decide (q.1.name = "<init>")) q.2.2.2.2 (.invokestatic ix) (.int n :: .int dp :: .null :: .int sp :: v :: st) h = none := by
    show (pm_at pm_XL q.2.2.2.2 ix).bind _ = none
    rw [hX]; rfl
  rw [e] at hz; cases hz
theorem ex_cpn2 (hM : pm_Mt mid q l) {ix b : Nat} {n dp sp : Int32} (hf : pm_find l pc = some (.invokestatic ix, L)) (hn : pm_at pm_CL q.2.2.2.2 ix = none) (hX : pm_at pm_XL q.2.2.2.2 ix = some 1) : ex_P N d mid pc ls (.int n :: .int dp :: .ref b :: .int sp :: .null :: st) S Q := by
  refine ex_hb hM hf (fun h => pm_nocall3 rfl hn) rfl rfl rfl rfl (fun h => rfl) (fun ix z => by cases z) (fun h eV W K z hz => ?_)
  have e : pm_hb (decide (q.1.name = "<init>")) q.2.2.2.2 (.invokestatic ix) (.int n :: .int dp :: .ref b :: .int sp :: .null :: st) h = none := by
    show (pm_at pm_XL q.2.2.2.2 ix).bind _ = none
    rw [hX]; rfl
  rw [e] at hz; cases hz
theorem ex_cast (hM : pm_Mt mid q l) {ix a : Nat} (hf : pm_find l pc = some (.checkcast ix, L)) (hp : pc + 3 = pc_q) (kk : ex_P N d mid pc_q ls (.ref a :: st) S Q) : ex_P N d mid pc ls (.ref a :: st) S Q := by
  subst hp
  refine ex_hb hM hf (fun h => pm_nocall2 rfl) rfl rfl rfl rfl (fun h => rfl) (fun ix z => by cases z) (fun h eV W K z hz => ?_)
  unfold pm_hb at hz
  dsimp only at hz
  obtain ⟨k, e1, e⟩ := Option.bind_eq_some_iff.mp hz
  split at e
  · split at e
    · cases e
      show ex_P N d mid (pc + 3) ls (.ref a :: st) (ex_V h) Q
      rw [eV]; exact kk
    · cases e
  · cases e
/-- an object of a class that is not of the list -/
theorem ex_nonew (hM : pm_Mt mid q l) {ix : Nat} (hf : pm_find l pc = some (.new ix, L)) (hF : pm_at pm_NL q.2.2.2.2 ix = none) : ex_P N d mid pc ls st S Q := by
  refine ex_hp hM hf (fun h => pm_nocall2 rfl) (pm_noret _ (Or.inl (by show 3 ≠ 1; decide))) rfl rfl rfl (fun h eV W K z hz => ?_)
  rcases pm_hp_cases hz with hz | ⟨s, hz, _⟩
  · have e : pm_hb (decide (q.1.name = "<init>")) q.2.2.2.2 (.new ix) st h = none := by
      show (pm_at pm_NL q.2.2.2.2 ix).bind _ = none
      rw [hF]; rfl
    rw [e] at hz; cases hz
  · cases (show (none : Option (List Value)) = some s from hz)
/-- a call on null -/
theorem ex_ncn (hM : pm_Mt mid q l) {ix callee np kd : Nat} {ra rest : List Value} (hf : pm_find l pc = some (i, L)) (hi : pm_ix i kd = some ix) (hC : pm_at pm_CL q.2.2.2.2 ix = some (callee, np, kd)) (hX : pm_at pm_XL q.2.2.2.2 ix = none) (hst : st = ra ++ rest) (hl : ra.length = np + 1) (hk : ¬ (kd = 2 ∨ kd = 5)) (hra : ∀ q h, pm_rcv kd q h ra.reverse = false) : ex_P N d mid pc ls st S Q := by
  have hcix : pm_cix i = some ix := by
    unfold pm_ix at hi
    split at hi <;> first | exact hi | cases hi
  refine (ex_step hM hf (pm_noret_call hi) (fun h => ?_) (fun h eV W K z hz => ?_)).weak
  · cases hc : pm_call q.2.2.2.2 i st h with
    | none => rfl
    | some y =>
      exfalso
      unfold pm_call at hc
      rw [hcix] at hc
      obtain ⟨ix', c1, hc⟩ := Option.bind_eq_some_iff.mp hc
      cases c1
      obtain ⟨y', c1, hc⟩ := Option.bind_eq_some_iff.mp hc
      rw [hC] at c1
      cases c1
      obtain ⟨q', c1, hc⟩ := Option.bind_eq_some_iff.mp hc
      dsimp only at hc
      simp only [if_neg hk] at hc
      split at hc
      · rename_i g
        have g4 := g.2.2.2
        rw [hst, ← hl, List.take_left, hra] at g4
        cases g4
      · cases hc
  · rw [ex_noX hcix hX] at hz; cases hz
end EXN
end
section
/-- SilentTable$TextReader.readTape(II)V -/
def es11 (C : Int32 → Int32 → ex_S → ex_S → Prop) : Prop := ∀ (N d : Nat) (a0 : Int32) (a1 : Int32) (S : ex_S), ex_P N d 11 0 [.ref 25, .int a0, .int a1, pm_no] [] S (fun r S_q => r = none ∧ C a0 a1 S S_q)
/-- SilentTable$TextReader.forget()V -/
def es12 (C : ex_S → ex_S → Prop) : Prop := ∀ (N d : Nat) (S : ex_S), ex_P N d 12 0 [.ref 25] [] S (fun r S_q => r = none ∧ C S S_q)
/-- java/util/Arrays.fill([II)V -/
def es13 (C : Nat → Int32 → ex_S → ex_S → Prop) : Prop := ∀ (N d : Nat) (a0 : Nat) (a1 : Int32) (S : ex_S), ex_P N d 13 0 [.ref a0, .int a1, pm_no, pm_no] [] S (fun r S_q => r = none ∧ C a0 a1 S S_q)
/-- SilentTable$Tokens.startOver(I)V -/
def es14 (C : Int32 → ex_S → ex_S → Prop) : Prop := ∀ (N d : Nat) (a0 : Int32) (S : ex_S), ex_P N d 14 0 [.ref 30, .int a0] [] S (fun r S_q => r = none ∧ C a0 S S_q)
/-- SilentTable$TextReader.readSigns()Z -/
def es15 (C : ex_S → Int32 → ex_S → Prop) : Prop := ∀ (N d : Nat) (S : ex_S), ex_P N d 15 0 [.ref 25, pm_no] [] S (fun r S_q => ∃ v, r = some (.int v) ∧ C S v S_q)
/-- SilentTable$Tokens.step()V -/
def es16 (C : ex_S → ex_S → Prop) : Prop := ∀ (N d : Nat) (S : ex_S), ex_P N d 16 0 [.ref 30] [] S (fun r S_q => r = none ∧ C S S_q)
/-- SilentTable$Tokens.isBlank(B)Z -/
def es17 (C : Int32 → ex_S → Int32 → ex_S → Prop) : Prop := ∀ (N d : Nat) (a0 : Int32) (S : ex_S), ex_P N d 17 0 [.int a0] [] S (fun r S_q => ∃ v, r = some (.int v) ∧ C a0 S v S_q)
/-- SilentTable$Tokens.isLetter(B)Z -/
def es18 (C : Int32 → ex_S → Int32 → ex_S → Prop) : Prop := ∀ (N d : Nat) (a0 : Int32) (S : ex_S), ex_P N d 18 0 [.int a0] [] S (fun r S_q => ∃ v, r = some (.int v) ∧ C a0 S v S_q)
/-- SilentTable$Tokens.isDigit(B)Z -/
def es19 (C : Int32 → ex_S → Int32 → ex_S → Prop) : Prop := ∀ (N d : Nat) (a0 : Int32) (S : ex_S), ex_P N d 19 0 [.int a0] [] S (fun r S_q => ∃ v, r = some (.int v) ∧ C a0 S v S_q)
/-- SilentTable$Tokens.takeDigits()V -/
def es20 (C : ex_S → ex_S → Prop) : Prop := ∀ (N d : Nat) (S : ex_S), ex_P N d 20 0 [.ref 30] [] S (fun r S_q => r = none ∧ C S S_q)
/-- SilentTable$TextReader.noteFault(II)V -/
def es21 (C : Int32 → Int32 → ex_S → ex_S → Prop) : Prop := ∀ (N d : Nat) (a0 : Int32) (a1 : Int32) (S : ex_S), ex_P N d 21 0 [.ref 25, .int a0, .int a1] [] S (fun r S_q => r = none ∧ C a0 a1 S S_q)
/-- SilentTable$TextReader.readLines(I)Z -/
def es22 (C : Int32 → ex_S → Int32 → ex_S → Prop) : Prop := ∀ (N d : Nat) (a0 : Int32) (S : ex_S), ex_P N d 22 0 [.ref 25, .int a0, pm_no] [] S (fun r S_q => ∃ v, r = some (.int v) ∧ C a0 S v S_q)
/-- SilentTable$TextReader.firstWord(I)I -/
def es23 (C : Int32 → ex_S → Int32 → ex_S → Prop) : Prop := ∀ (N d : Nat) (a0 : Int32) (S : ex_S), ex_P N d 23 0 [.ref 25, .int a0, pm_no] [] S (fun r S_q => ∃ v, r = some (.int v) ∧ C a0 S v S_q)
/-- SilentTable$Tokens.wordAmong(Ljava/lang/String;)I -/
def es24 (C : Nat → ex_S → Int32 → ex_S → Prop) : Prop := ∀ (N d : Nat) (a0 : Nat) (S : ex_S), ex_P N d 24 0 [.ref 30, .ref a0, pm_no, pm_no, pm_no] [] S (fun r S_q => ∃ v, r = some (.int v) ∧ C a0 S v S_q)
/-- java/lang/String.length()I -/
def es25 (C : Nat → ex_S → Int32 → ex_S → Prop) : Prop := ∀ (N d : Nat) (t : Nat) (S : ex_S), ex_P N d 25 0 [.ref t] [] S (fun r S_q => ∃ v, r = some (.int v) ∧ C t S v S_q)
/-- java/lang/String.charAt(I)C -/
def es27 (C : Nat → Int32 → ex_S → Int32 → ex_S → Prop) : Prop := ∀ (N d : Nat) (t : Nat) (a0 : Int32) (S : ex_S), ex_P N d 27 0 [.ref t, .int a0] [] S (fun r S_q => ∃ v, r = some (.int v) ∧ C t a0 S v S_q)
/-- SilentTable$Tokens.spells(Ljava/lang/String;II)Z -/
def es36 (C : Nat → Int32 → Int32 → ex_S → Int32 → ex_S → Prop) : Prop := ∀ (N d : Nat) (a0 : Nat) (a1 : Int32) (a2 : Int32) (S : ex_S), ex_P N d 36 0 [.ref 30, .ref a0, .int a1, .int a2, pm_no] [] S (fun r S_q => ∃ v, r = some (.int v) ∧ C a0 a1 a2 S v S_q)
/-- SilentTable$TextReader.readLine(I)Z -/
def es37 (C : Int32 → ex_S → Int32 → ex_S → Prop) : Prop := ∀ (N d : Nat) (a0 : Int32) (S : ex_S), ex_P N d 37 0 [.ref 25, .int a0, pm_no] [] S (fun r S_q => ∃ v, r = some (.int v) ∧ C a0 S v S_q)
/-- SilentTable$TextReader.noteMany(I)V -/
def es38 (C : Int32 → ex_S → ex_S → Prop) : Prop := ∀ (N d : Nat) (a0 : Int32) (S : ex_S), ex_P N d 38 0 [.ref 25, .int a0, pm_no, pm_no] [] S (fun r S_q => r = none ∧ C a0 S S_q)
/-- SilentTable$TextReader.noteNumber(II)V -/
def es39 (C : Int32 → Int32 → ex_S → ex_S → Prop) : Prop := ∀ (N d : Nat) (a0 : Int32) (a1 : Int32) (S : ex_S), ex_P N d 39 0 [.ref 25, .int a0, .int a1, pm_no, pm_no, pm_no] [] S (fun r S_q => r = none ∧ C a0 a1 S S_q)
/-- SilentTable$TextReader.keepLine(I)V -/
def es40 (C : Int32 → ex_S → ex_S → Prop) : Prop := ∀ (N d : Nat) (a0 : Int32) (S : ex_S), ex_P N d 40 0 [.ref 25, .int a0] [] S (fun r S_q => r = none ∧ C a0 S S_q)
/-- SilentTable$TextReader.store([III)I -/
def es41 (C : Nat → Int32 → Int32 → ex_S → Int32 → ex_S → Prop) : Prop := ∀ (N d : Nat) (a0 : Nat) (a1 : Int32) (a2 : Int32) (S : ex_S), ex_P N d 41 0 [.ref 25, .ref a0, .int a1, .int a2] [] S (fun r S_q => ∃ v, r = some (.int v) ∧ C a0 a1 a2 S v S_q)
/-- SilentTable$TextReader.keepDeedOrLaw(I)V -/
def es42 (C : Int32 → ex_S → ex_S → Prop) : Prop := ∀ (N d : Nat) (a0 : Int32) (S : ex_S), ex_P N d 42 0 [.ref 25, .int a0] [] S (fun r S_q => r = none ∧ C a0 S S_q)
/-- SilentTableModel.in(III)Z -/
def es174 (C : Int32 → Int32 → Int32 → ex_S → Int32 → ex_S → Prop) : Prop := ∀ (N d : Nat) (a0 : Int32) (a1 : Int32) (a2 : Int32) (S : ex_S), ex_P N d 174 0 [.int a0, .int a1, .int a2] [] S (fun r S_q => ∃ v, r = some (.int v) ∧ C a0 a1 a2 S v S_q)
/-- SilentTableModel.mostOf(I)I -/
def es176 (C : Int32 → ex_S → Int32 → ex_S → Prop) : Prop := ∀ (N d : Nat) (a0 : Int32) (S : ex_S), ex_P N d 176 0 [.int a0] [] S (fun r S_q => ∃ v, r = some (.int v) ∧ C a0 S v S_q)
/-- SilentTableModel.readText(I)Z -/
def es178 (C : Int32 → ex_S → Int32 → ex_S → Prop) : Prop := ∀ (N d : Nat) (a0 : Int32) (S : ex_S), ex_P N d 178 0 [.ref 41, .int a0, pm_no, pm_no] [] S (fun r S_q => ∃ v, r = some (.int v) ∧ C a0 S v S_q)
/-- SilentTableModel.token()V -/
def es179 (C : ex_S → ex_S → Prop) : Prop := ∀ (N d : Nat) (S : ex_S), ex_P N d 179 0 [.ref 41, pm_no, pm_no] [] S (fun r S_q => r = none ∧ C S S_q)
/-- SilentTableModel.see()I -/
def es180 (C : ex_S → Int32 → ex_S → Prop) : Prop := ∀ (N d : Nat) (S : ex_S), ex_P N d 180 0 [.ref 41] [] S (fun r S_q => ∃ v, r = some (.int v) ∧ C S v S_q)
/-- SilentTableModel.rowText()Z -/
def es181 (C : ex_S → Int32 → ex_S → Prop) : Prop := ∀ (N d : Nat) (S : ex_S), ex_P N d 181 0 [.ref 41] [] S (fun r S_q => ∃ v, r = some (.int v) ∧ C S v S_q)
/-- SilentTableModel.later(II)V -/
def es182 (C : Int32 → Int32 → ex_S → ex_S → Prop) : Prop := ∀ (N d : Nat) (a0 : Int32) (a1 : Int32) (S : ex_S), ex_P N d 182 0 [.ref 41, .int a0, .int a1] [] S (fun r S_q => r = none ∧ C a0 a1 S S_q)
/-- SilentTableModel.take(III)Z -/
def es183 (C : Int32 → Int32 → Int32 → ex_S → Int32 → ex_S → Prop) : Prop := ∀ (N d : Nat) (a0 : Int32) (a1 : Int32) (a2 : Int32) (S : ex_S), ex_P N d 183 0 [.ref 41, .int a0, .int a1, .int a2] [] S (fun r S_q => ∃ v, r = some (.int v) ∧ C a0 a1 a2 S v S_q)
/-- SilentTableModel.stops()Z -/
def es184 (C : ex_S → Int32 → ex_S → Prop) : Prop := ∀ (N d : Nat) (S : ex_S), ex_P N d 184 0 [.ref 41] [] S (fun r S_q => ∃ v, r = some (.int v) ∧ C S v S_q)
/-- SilentTableModel.keep(IIIII)V -/
def es185 (C : Int32 → Int32 → Int32 → Int32 → Int32 → ex_S → ex_S → Prop) : Prop := ∀ (N d : Nat) (a0 : Int32) (a1 : Int32) (a2 : Int32) (a3 : Int32) (a4 : Int32) (S : ex_S), ex_P N d 185 0 [.ref 41, .int a0, .int a1, .int a2, .int a3, .int a4, pm_no, pm_no] [] S (fun r S_q => r = none ∧ C a0 a1 a2 a3 a4 S S_q)
/-- SilentTableModel.lines(I)Z -/
def es186 (C : Int32 → ex_S → Int32 → ex_S → Prop) : Prop := ∀ (N d : Nat) (a0 : Int32) (S : ex_S), ex_P N d 186 0 [.ref 41, .int a0, pm_no, pm_no, pm_no, pm_no] [] S (fun r S_q => ∃ v, r = some (.int v) ∧ C a0 S v S_q)
/-- SilentTableModel.listLine(JI)Z -/
def es187 (C : Int64 → Int32 → ex_S → Int32 → ex_S → Prop) : Prop := ∀ (N d : Nat) (a0 : Int64) (a1 : Int32) (S : ex_S), ex_P N d 187 0 [.ref 41, .long a0, pm_no, .int a1] [] S (fun r S_q => ∃ v, r = some (.int v) ∧ C a0 a1 S v S_q)
/-- SilentTableModel.actWord()Z -/
def es188 (C : ex_S → Int32 → ex_S → Prop) : Prop := ∀ (N d : Nat) (S : ex_S), ex_P N d 188 0 [.ref 41, pm_no, pm_no] [] S (fun r S_q => ∃ v, r = some (.int v) ∧ C S v S_q)
/-- SilentTableModel.mealLine(JI)Z -/
def es189 (C : Int64 → Int32 → ex_S → Int32 → ex_S → Prop) : Prop := ∀ (N d : Nat) (a0 : Int64) (a1 : Int32) (S : ex_S), ex_P N d 189 0 [.ref 41, .long a0, pm_no, .int a1, pm_no] [] S (fun r S_q => ∃ v, r = some (.int v) ∧ C a0 a1 S v S_q)
/-- SilentTableModel.clearRead()V -/
def es190 (C : ex_S → ex_S → Prop) : Prop := ∀ (N d : Nat) (S : ex_S), ex_P N d 190 0 [.ref 41, pm_no] [] S (fun r S_q => r = none ∧ C S S_q)
/-- SilentTableModel.seat(II)Z -/
def es191 (C : Int32 → Int32 → ex_S → Int32 → ex_S → Prop) : Prop := ∀ (N d : Nat) (a0 : Int32) (a1 : Int32) (S : ex_S), ex_P N d 191 0 [.ref 41, .int a0, .int a1, pm_no] [] S (fun r S_q => ∃ v, r = some (.int v) ∧ C a0 a1 S v S_q)
/-- SilentTableModel.houseLine(JI)Z -/
def es192 (C : Int64 → Int32 → ex_S → Int32 → ex_S → Prop) : Prop := ∀ (N d : Nat) (a0 : Int64) (a1 : Int32) (S : ex_S), ex_P N d 192 0 [.ref 41, .long a0, pm_no, .int a1, pm_no] [] S (fun r S_q => ∃ v, r = some (.int v) ∧ C a0 a1 S v S_q)
end
section
set_option maxRecDepth 100000 in
set_option maxHeartbeats 4000000 in
/-- SilentTable$Tokens.isBlank -/
theorem ev17 {C : Int32 → ex_S → Int32 → ex_S → Prop} 
    (v0 : ∀ (a0 : Int32) (S : ex_S), a0 = 10 → C a0 S 1 S) 
    (v1 : ∀ (a0 : Int32) (S : ex_S), ¬ (a0 = 10) → ¬ a0 = 32 → C a0 S 0 S) 
    (v2 : ∀ (a0 : Int32) (S : ex_S), ¬ (a0 = 10) → ¬ (¬ a0 = 32) → C a0 S 1 S) : es17 C := by
  intro N d a0 S
  refine ex_lo pm_M17 (pc_q := 1) (ls_q := [.int a0]) (st_q := [.int a0]) rfl rfl rfl ?_
  refine ex_op pm_M17 (pc_q := 3) (st_q := [.int 10, .int a0]) rfl rfl rfl ?_
  refine ex_icmp pm_M17 (t := 12) (pc_q := 6) rfl rfl rfl (fun c1 => ?_) (fun c1 => ?_)
  · -- a0 = 10
    refine ex_op pm_M17 (pc_q := 13) (st_q := [.int 1]) rfl rfl rfl ?_
    refine ex_br pm_M17 (pc_q := 17) (st_q := [.int 1]) rfl rfl ?_
    exact ex_retI pm_M17 rfl (⟨_, rfl, v0 a0 S c1⟩)
  · -- not
    refine ex_lo pm_M17 (pc_q := 7) (ls_q := [.int a0]) (st_q := [.int a0]) rfl rfl rfl ?_
    refine ex_op pm_M17 (pc_q := 9) (st_q := [.int 32, .int a0]) rfl rfl rfl ?_
    refine ex_icmp pm_M17 (t := 16) (pc_q := 12) rfl rfl rfl (fun c2 => ?_) (fun c2 => ?_)
    · -- ¬ a0 = 32
      refine ex_op pm_M17 (pc_q := 17) (st_q := [.int 0]) rfl rfl rfl ?_
      exact ex_retI pm_M17 rfl (⟨_, rfl, v1 a0 S c1 c2⟩)
    · -- not
      refine ex_op pm_M17 (pc_q := 13) (st_q := [.int 1]) rfl rfl rfl ?_
      refine ex_br pm_M17 (pc_q := 17) (st_q := [.int 1]) rfl rfl ?_
      exact ex_retI pm_M17 rfl (⟨_, rfl, v2 a0 S c1 c2⟩)
set_option maxRecDepth 100000 in
set_option maxHeartbeats 4000000 in
/-- SilentTable$Tokens.isLetter -/
theorem ev18 {C : Int32 → ex_S → Int32 → ex_S → Prop} 
    (v0 : ∀ (a0 : Int32) (S : ex_S), a0 < 97 → C a0 S 0 S) 
    (v1 : ∀ (a0 : Int32) (S : ex_S), ¬ (a0 < 97) → 122 < a0 → C a0 S 0 S) 
    (v2 : ∀ (a0 : Int32) (S : ex_S), ¬ (a0 < 97) → ¬ (122 < a0) → C a0 S 1 S) : es18 C := by
  intro N d a0 S
  refine ex_lo pm_M18 (pc_q := 1) (ls_q := [.int a0]) (st_q := [.int a0]) rfl rfl rfl ?_
  refine ex_op pm_M18 (pc_q := 3) (st_q := [.int 97, .int a0]) rfl rfl rfl ?_
  refine ex_icmp pm_M18 (t := 16) (pc_q := 6) rfl rfl rfl (fun c1 => ?_) (fun c1 => ?_)
  · -- a0 < 97
    refine ex_op pm_M18 (pc_q := 17) (st_q := [.int 0]) rfl rfl rfl ?_
    exact ex_retI pm_M18 rfl (⟨_, rfl, v0 a0 S c1⟩)
  · -- not
    refine ex_lo pm_M18 (pc_q := 7) (ls_q := [.int a0]) (st_q := [.int a0]) rfl rfl rfl ?_
    refine ex_op pm_M18 (pc_q := 9) (st_q := [.int 122, .int a0]) rfl rfl rfl ?_
    refine ex_icmp pm_M18 (t := 16) (pc_q := 12) rfl rfl rfl (fun c2 => ?_) (fun c2 => ?_)
    · -- 122 < a0
      refine ex_op pm_M18 (pc_q := 17) (st_q := [.int 0]) rfl rfl rfl ?_
      exact ex_retI pm_M18 rfl (⟨_, rfl, v1 a0 S c1 c2⟩)
    · -- not
      refine ex_op pm_M18 (pc_q := 13) (st_q := [.int 1]) rfl rfl rfl ?_
      refine ex_br pm_M18 (pc_q := 17) (st_q := [.int 1]) rfl rfl ?_
      exact ex_retI pm_M18 rfl (⟨_, rfl, v2 a0 S c1 c2⟩)
set_option maxRecDepth 100000 in
set_option maxHeartbeats 4000000 in
/-- SilentTable$Tokens.isDigit -/
theorem ev19 {C : Int32 → ex_S → Int32 → ex_S → Prop} 
    (v0 : ∀ (a0 : Int32) (S : ex_S), a0 < 48 → C a0 S 0 S) 
    (v1 : ∀ (a0 : Int32) (S : ex_S), ¬ (a0 < 48) → 57 < a0 → C a0 S 0 S) 
    (v2 : ∀ (a0 : Int32) (S : ex_S), ¬ (a0 < 48) → ¬ (57 < a0) → C a0 S 1 S) : es19 C := by
  intro N d a0 S
  refine ex_lo pm_M19 (pc_q := 1) (ls_q := [.int a0]) (st_q := [.int a0]) rfl rfl rfl ?_
  refine ex_op pm_M19 (pc_q := 3) (st_q := [.int 48, .int a0]) rfl rfl rfl ?_
  refine ex_icmp pm_M19 (t := 16) (pc_q := 6) rfl rfl rfl (fun c1 => ?_) (fun c1 => ?_)
  · -- a0 < 48
    refine ex_op pm_M19 (pc_q := 17) (st_q := [.int 0]) rfl rfl rfl ?_
    exact ex_retI pm_M19 rfl (⟨_, rfl, v0 a0 S c1⟩)
  · -- not
    refine ex_lo pm_M19 (pc_q := 7) (ls_q := [.int a0]) (st_q := [.int a0]) rfl rfl rfl ?_
    refine ex_op pm_M19 (pc_q := 9) (st_q := [.int 57, .int a0]) rfl rfl rfl ?_
    refine ex_icmp pm_M19 (t := 16) (pc_q := 12) rfl rfl rfl (fun c2 => ?_) (fun c2 => ?_)
    · -- 57 < a0
      refine ex_op pm_M19 (pc_q := 17) (st_q := [.int 0]) rfl rfl rfl ?_
      exact ex_retI pm_M19 rfl (⟨_, rfl, v1 a0 S c1 c2⟩)
    · -- not
      refine ex_op pm_M19 (pc_q := 13) (st_q := [.int 1]) rfl rfl rfl ?_
      refine ex_br pm_M19 (pc_q := 17) (st_q := [.int 1]) rfl rfl ?_
      exact ex_retI pm_M19 rfl (⟨_, rfl, v2 a0 S c1 c2⟩)
set_option maxRecDepth 100000 in
set_option maxHeartbeats 4000000 in
/-- SilentTableModel.in -/
theorem ev174 {C : Int32 → Int32 → Int32 → ex_S → Int32 → ex_S → Prop} 
    (v0 : ∀ (a0 : Int32) (a1 : Int32) (a2 : Int32) (S : ex_S), a0 < a1 → C a0 a1 a2 S 0 S) 
    (v1 : ∀ (a0 : Int32) (a1 : Int32) (a2 : Int32) (S : ex_S), ¬ (a0 < a1) → a2 < a0 → C a0 a1 a2 S 0 S) 
    (v2 : ∀ (a0 : Int32) (a1 : Int32) (a2 : Int32) (S : ex_S), ¬ (a0 < a1) → ¬ (a2 < a0) → C a0 a1 a2 S 1 S) : es174 C := by
  intro N d a0 a1 a2 S
  refine ex_lo pm_M174 (pc_q := 1) (ls_q := [.int a0, .int a1, .int a2]) (st_q := [.int a0]) rfl rfl rfl ?_
  refine ex_lo pm_M174 (pc_q := 2) (ls_q := [.int a0, .int a1, .int a2]) (st_q := [.int a1, .int a0]) rfl rfl rfl ?_
  refine ex_icmp pm_M174 (t := 14) (pc_q := 5) rfl rfl rfl (fun c1 => ?_) (fun c1 => ?_)
  · -- a0 < a1
    refine ex_op pm_M174 (pc_q := 15) (st_q := [.int 0]) rfl rfl rfl ?_
    exact ex_retI pm_M174 rfl (⟨_, rfl, v0 a0 a1 a2 S c1⟩)
  · -- not
    refine ex_lo pm_M174 (pc_q := 6) (ls_q := [.int a0, .int a1, .int a2]) (st_q := [.int a0]) rfl rfl rfl ?_
    refine ex_lo pm_M174 (pc_q := 7) (ls_q := [.int a0, .int a1, .int a2]) (st_q := [.int a2, .int a0]) rfl rfl rfl ?_
    refine ex_icmp pm_M174 (t := 14) (pc_q := 10) rfl rfl rfl (fun c2 => ?_) (fun c2 => ?_)
    · -- a2 < a0
      refine ex_op pm_M174 (pc_q := 15) (st_q := [.int 0]) rfl rfl rfl ?_
      exact ex_retI pm_M174 rfl (⟨_, rfl, v1 a0 a1 a2 S c1 c2⟩)
    · -- not
      refine ex_op pm_M174 (pc_q := 11) (st_q := [.int 1]) rfl rfl rfl ?_
      refine ex_br pm_M174 (pc_q := 15) (st_q := [.int 1]) rfl rfl ?_
      exact ex_retI pm_M174 rfl (⟨_, rfl, v2 a0 a1 a2 S c1 c2⟩)
set_option maxRecDepth 100000 in
set_option maxHeartbeats 4000000 in
/-- SilentTableModel.mostOf -/
theorem ev176 {C : Int32 → ex_S → Int32 → ex_S → Prop} 
    (v0 : ∀ (a0 : Int32) (S : ex_S), ¬ a0 = 1 → C a0 S 2 S) 
    (v1 : ∀ (a0 : Int32) (S : ex_S), ¬ (¬ a0 = 1) → C a0 S 3 S) : es176 C := by
  intro N d a0 S
  refine ex_lo pm_M176 (pc_q := 1) (ls_q := [.int a0]) (st_q := [.int a0]) rfl rfl rfl ?_
  refine ex_op pm_M176 (pc_q := 2) (st_q := [.int 1, .int a0]) rfl rfl rfl ?_
  refine ex_icmp pm_M176 (t := 9) (pc_q := 5) rfl rfl rfl (fun c1 => ?_) (fun c1 => ?_)
  · -- ¬ a0 = 1
    refine ex_op pm_M176 (pc_q := 10) (st_q := [.int 2]) rfl rfl rfl ?_
    exact ex_retI pm_M176 rfl (⟨_, rfl, v0 a0 S c1⟩)
  · -- not
    refine ex_op pm_M176 (pc_q := 6) (st_q := [.int 3]) rfl rfl rfl ?_
    refine ex_br pm_M176 (pc_q := 10) (st_q := [.int 3]) rfl rfl ?_
    exact ex_retI pm_M176 rfl (⟨_, rfl, v1 a0 S c1⟩)
set_option maxRecDepth 100000 in
set_option maxHeartbeats 4000000 in
/-- SilentTableModel.see -/
theorem ev180 {C : ex_S → Int32 → ex_S → Prop} 
    (v0 : ∀ (S : ex_S), S.1 41 11 ≤ S.1 41 10 → C S (-1) S) 
    (v1 : ∀ (S : ex_S), ¬ (S.1 41 11 ≤ S.1 41 10) → C S ((S.1 42 ((S.1 41 10).toNatClampNeg)) &&& 255) S) : es180 C := by
  intro N d  S
  refine ex_lo pm_M180 (pc_q := 1) (ls_q := [.ref 41]) (st_q := [.ref 41]) rfl rfl rfl ?_
  refine ex_getI' pm_M180 (pc_q := 4) (v := S.1 41 10) rfl rfl rfl rfl rfl rfl ?_
  refine ex_lo pm_M180 (pc_q := 5) (ls_q := [.ref 41]) (st_q := [.ref 41, .int (S.1 41 10)]) rfl rfl rfl ?_
  refine ex_getI' pm_M180 (pc_q := 8) (v := S.1 41 11) rfl rfl rfl rfl rfl rfl ?_
  refine ex_icmp pm_M180 (t := 27) (pc_q := 11) rfl rfl rfl (fun c1 => ?_) (fun c1 => ?_)
  · -- S.1 41 11 ≤ S.1 41 10
    refine ex_op pm_M180 (pc_q := 28) (st_q := [.int (-1)]) rfl rfl rfl ?_
    exact ex_retI pm_M180 rfl (⟨_, rfl, v0 S c1⟩)
  · -- not
    refine ex_lo pm_M180 (pc_q := 12) (ls_q := [.ref 41]) (st_q := [.ref 41]) rfl rfl rfl ?_
    refine ex_getK pm_M180 (pc_q := 15) (j := 25) (b := 42) rfl rfl rfl rfl rfl ?_
    refine ex_lo pm_M180 (pc_q := 16) (ls_q := [.ref 41]) (st_q := [.ref 41, .ref 42]) rfl rfl rfl ?_
    refine ex_getI' pm_M180 (pc_q := 19) (v := S.1 41 10) rfl rfl rfl rfl rfl rfl ?_
    refine ex_bald' pm_M180 (pc_q := 20) (v := S.1 42 ((S.1 41 10).toNatClampNeg)) rfl rfl rfl ?_
    refine ex_op pm_M180 (pc_q := 23) (st_q := [.int 255, .int (S.1 42 ((S.1 41 10).toNatClampNeg))]) rfl rfl rfl ?_
    refine ex_op pm_M180 (pc_q := 24) (st_q := [.int ((S.1 42 ((S.1 41 10).toNatClampNeg)) &&& 255)]) rfl rfl rfl ?_
    refine ex_br pm_M180 (pc_q := 28) (st_q := [.int ((S.1 42 ((S.1 41 10).toNatClampNeg)) &&& 255)]) rfl rfl ?_
    exact ex_retI pm_M180 rfl (⟨_, rfl, v1 S c1⟩)
end
section
/-! TOKENS: the pure words of them, and what both sides' steps do -/
theorem n32_i {i : Nat} (h : i < 2147483648) : (Int32.ofNat i).toInt = i := Int32.toInt_ofNat_of_lt h
theorem n32_le {i j : Nat} (hi : i < 2147483648) (hj : j < 2147483648) : Int32.ofNat i ≤ Int32.ofNat j ↔ i ≤ j := by
  rw [Int32.le_iff_toInt_le, n32_i hi, n32_i hj]; omega
theorem n32_lt {i j : Nat} (hi : i < 2147483648) (hj : j < 2147483648) : Int32.ofNat i < Int32.ofNat j ↔ i < j := by
  rw [Int32.lt_iff_toInt_lt, n32_i hi, n32_i hj]; omega
theorem n32_eq {i j : Nat} (hi : i < 2147483648) (hj : j < 2147483648) : Int32.ofNat i = Int32.ofNat j ↔ i = j := by
  rw [← Int32.toInt_inj, n32_i hi, n32_i hj]; omega
theorem n32_tn {i : Nat} (hi : i < 2147483648) : (Int32.ofNat i).toNatClampNeg = i := by
  show (Int32.ofNat i).toInt.toNat = i
  rw [n32_i hi]; rfl
theorem n32_s (i : Nat) : Int32.ofNat i + 1 = Int32.ofNat (i + 1) := (Int32.ofNat_add i 1).symm
theorem n32_sub {i j : Nat} (h : j ≤ i) : Int32.ofNat i - Int32.ofNat j = Int32.ofNat (i - j) := (Int32.ofNat_sub i j h).symm
theorem n32_add (i j : Nat) : Int32.ofNat i + Int32.ofNat j = Int32.ofNat (i + j) := (Int32.ofNat_add i j).symm
/-- numbers of a view but those of P stay -/
def ex_fx (P : Nat → Nat → Prop) (S S_q : ex_S) : Prop := (∀ a k, ¬ P a k → S_q.1 a k = S.1 a k) ∧ S_q.2 = S.2
theorem ex_fx.refl (P : Nat → Nat → Prop) (S : ex_S) : ex_fx P S S := ⟨fun _ _ _ => rfl, rfl⟩
theorem ex_fx.sx {P : Nat → Nat → Prop} {S T : ex_S} {a k : Nat} {v : Int32} (h : ex_fx P S T) (hP : P a k) : ex_fx P S (ex_sx T a k v) := by
  refine ⟨fun b j hb => ?_, h.2⟩
  show (if b = a ∧ j = k then v else T.1 b j) = _
  rw [if_neg (fun z => hb (by rw [z.1, z.2]; exact hP))]; exact h.1 b j hb
theorem ex_fx.trans {P : Nat → Nat → Prop} {S T U : ex_S} (h : ex_fx P S T) (g : ex_fx P T U) : ex_fx P S U := ⟨fun a k hk => (g.1 a k hk).trans (h.1 a k hk), g.2.trans h.2⟩
theorem ex_fx.mono {P P' : Nat → Nat → Prop} {S T : ex_S} (h : ex_fx P S T) (hP : ∀ a k, P a k → P' a k) : ex_fx P' S T := ⟨fun a k hk => h.1 a k (fun z => hk (hP a k z)), h.2⟩
theorem ex_sx_at (S : ex_S) (a k b j : Nat) (v : Int32) : (ex_sx S a k v).1 b j = if b = a ∧ j = k then v else S.1 b j := rfl
theorem ex_sx_ne {S : ex_S} {a k b j : Nat} {v : Int32} (h : ¬ (b = a ∧ j = k)) : (ex_sx S a k v).1 b j = S.1 b j := if_neg h
theorem ex_sx_eq {S : ex_S} {a k : Nat} {v : Int32} : (ex_sx S a k v).1 a k = v := if_pos ⟨rfl, rfl⟩
/-- how far a row of like bytes goes -/
def tk_rf (p : Int32 → Bool) (T : Nat → Int32) (n : Nat) : Nat → Nat → Nat
  | 0, i => i
  | k + 1, i => if i < n ∧ p (T i) = true then tk_rf p T n k (i + 1) else i
def tk_r (p : Int32 → Bool) (T : Nat → Int32) (n i : Nat) : Nat := tk_rf p T n (n - i) i
section TKR
variable {p : Int32 → Bool} {T : Nat → Int32} {n i : Nat}
theorem tk_ry (h1 : i < n) (h2 : p (T i) = true) : tk_r p T n i = tk_r p T n (i + 1) := by
  unfold tk_r
  obtain ⟨k, hk⟩ : ∃ k, n - i = k + 1 := ⟨n - i - 1, by omega⟩
  rw [hk, show n - (i + 1) = k by omega]
  show (if i < n ∧ p (T i) = true then tk_rf p T n k (i + 1) else i) = _
  rw [if_pos ⟨h1, h2⟩]
theorem tk_rn (h : ¬ (i < n ∧ p (T i) = true)) : tk_r p T n i = i := by
  unfold tk_r
  cases n - i with
  | zero => rfl
  | succ k => exact if_neg h
theorem tk_rf_ge (k i : Nat) : i ≤ tk_rf p T n k i := by
  induction k generalizing i with
  | zero => exact Nat.le_refl _
  | succ k ih =>
    show i ≤ (if i < n ∧ p (T i) = true then tk_rf p T n k (i + 1) else i)
    split
    · exact Nat.le_trans (Nat.le_succ i) (ih (i + 1))
    · exact Nat.le_refl _
theorem tk_rf_le (k i : Nat) (h : i ≤ n) : tk_rf p T n k i ≤ n := by
  induction k generalizing i with
  | zero => exact h
  | succ k ih =>
    show (if i < n ∧ p (T i) = true then tk_rf p T n k (i + 1) else i) ≤ n
    split
    · rename_i w; exact ih (i + 1) w.1
    · exact h
theorem tk_r_ge : i ≤ tk_r p T n i := tk_rf_ge _ _
theorem tk_r_le (h : i ≤ n) : tk_r p T n i ≤ n := tk_rf_le _ _ h
theorem tk_r_all {j : Nat} (h1 : i ≤ j) (h2 : j < tk_r p T n i) : p (T j) = true := by
  generalize hm : j - i = m
  induction m generalizing i with
  | zero =>
    have : j = i := by omega
    subst this
    apply Classical.byContradiction
    intro hc
    rw [tk_rn (fun z => hc z.2)] at h2
    omega
  | succ m ih =>
    by_cases hc : i < n ∧ p (T i) = true
    · rw [tk_ry hc.1 hc.2] at h2
      exact ih (by omega) h2 (by omega)
    · rw [tk_rn hc] at h2; omega
theorem tk_r_lt (h1 : i < n) (h2 : p (T i) = true) : i < tk_r p T n i := by
  rw [tk_ry h1 h2]; exact tk_r_ge
end TKR
def tk_bl (x : Int32) : Bool := decide (x = 10 ∨ x = 32)
def tk_le (x : Int32) : Bool := decide (97 ≤ x ∧ x ≤ 122)
def tk_di (x : Int32) : Bool := decide (48 ≤ x ∧ x ≤ 57)
def vf17 (x : Int32) : Int32 := if tk_bl x = true then 1 else 0
def vf18 (x : Int32) : Int32 := if tk_le x = true then 1 else 0
def vf19 (x : Int32) : Int32 := if tk_di x = true then 1 else 0
def vf174 (v lo hi : Int32) : Int32 := if lo ≤ v ∧ v ≤ hi then 1 else 0
def vf176 (s : Int32) : Int32 := if s = 1 then 3 else 2
def vf180 (S : ex_S) : Int32 := if S.1 41 11 ≤ S.1 41 10 then -1 else S.1 42 ((S.1 41 10).toNatClampNeg) &&& 255
theorem vf_0 {c : Prop} [Decidable c] : ((if c then 1 else 0 : Int32) = 0) ↔ ¬ c := by
  by_cases h : c
  · rw [if_pos h]; exact ⟨fun z => absurd z (by decide), fun z => absurd h z⟩
  · rw [if_neg h]; exact ⟨fun _ => h, fun _ => rfl⟩
/-- the token behind b: where it begins, what it is (0 the end, 1 a word, 2 a NUMBER, 3 a stop, 4 none), where it ends, its number -/
def tk_s (T : Nat → Int32) (n b : Nat) : Nat := tk_r tk_bl T n b
def tk_k (T : Nat → Int32) (n b : Nat) : Nat := if tk_s T n b < n then (if tk_le (T (tk_s T n b)) = true then 1 else if tk_di (T (tk_s T n b)) = true then (if tk_r tk_di T n (tk_s T n b) ≤ tk_s T n b + 2 then 2 else 4) else if T (tk_s T n b) = 59 then 3 else 4) else 0
def tk_e (T : Nat → Int32) (n b : Nat) : Nat := if tk_s T n b < n then (if tk_le (T (tk_s T n b)) = true then tk_r tk_le T n (tk_s T n b) else if tk_di (T (tk_s T n b)) = true then tk_r tk_di T n (tk_s T n b) else tk_s T n b + 1) else tk_s T n b
def tk_dv (T : Nat → Int32) (s i : Nat) : Int32 := if i = s then 0 else if i = s + 1 then 0 * 10 + T s - 48 else (0 * 10 + T s - 48) * 10 + T (s + 1) - 48
def tk_v (T : Nat → Int32) (n b : Nat) : Int32 := tk_dv T (tk_s T n b) (tk_r tk_di T n (tk_s T n b))
def tk_pf (T : Nat → Int32) (s : Nat) : Nat → Int64
  | 0 => 0
  | k + 1 => (tk_pf T s k <<< ((8 : Int32).toInt64 &&& 63)) ||| (T (s + k)).toInt64
def tk_p (T : Nat → Int32) (n b : Nat) : Int64 := if tk_r tk_le T n (tk_s T n b) ≤ tk_s T n b + 8 then tk_pf T (tk_s T n b) (tk_r tk_le T n (tk_s T n b) - tk_s T n b) else 0
def tk_rk (k : Nat) : Int32 := if k = 0 then 0 else if k = 1 then 2 else if k = 2 then 3 else if k = 3 then 4 else 1
section TKF
variable {T : Nat → Int32} {n b : Nat}
theorem tk_s_ge : b ≤ tk_s T n b := tk_r_ge
theorem tk_s_le (h : b ≤ n) : tk_s T n b ≤ n := tk_r_le h
theorem tk_e_ge : tk_s T n b ≤ tk_e T n b := by
  unfold tk_e
  split
  · split
    · exact tk_r_ge
    · split
      · exact tk_r_ge
      · omega
  · exact Nat.le_refl _
theorem tk_e_le (h : b ≤ n) : tk_e T n b ≤ n := by
  have hs := tk_s_le (T := T) h
  unfold tk_e
  split
  · split
    · exact tk_r_le (by omega)
    · split
      · exact tk_r_le (by omega)
      · omega
  · exact hs
theorem tk_e_gt (h : tk_k T n b ≠ 0) : tk_s T n b < tk_e T n b ∧ tk_s T n b < n := by
  unfold tk_k at h
  unfold tk_e
  split at h
  · rename_i hs
    refine ⟨?_, hs⟩
    rw [if_pos hs]
    split
    · rename_i w; exact tk_r_lt hs w
    · split
      · rename_i w; exact tk_r_lt hs w
      · omega
  · exact absurd rfl h
theorem tk_k0 (h : tk_k T n b = 0) (hb : b ≤ n) : tk_s T n b = n := by
  have hs := tk_s_le (T := T) hb
  unfold tk_k at h
  split at h
  · split at h
    · cases h
    · split at h
      · split at h <;> cases h
      · split at h <;> cases h
  · omega
end TKF
end
section
theorem vf17_0 {x : Int32} : vf17 x = 0 ↔ ¬ tk_bl x = true := vf_0
theorem vf18_0 {x : Int32} : vf18 x = 0 ↔ ¬ tk_le x = true := vf_0
theorem vf19_0 {x : Int32} : vf19 x = 0 ↔ ¬ tk_di x = true := vf_0
theorem ef17 (N d : Nat) (a0 : Int32) (S : ex_S) : ex_P N d 17 0 [.int a0] [] S (fun r S_q => r = some (.int (vf17 a0)) ∧ S_q = S) := by
  refine (ev17 (C := fun a S v S_q => v = vf17 a ∧ S_q = S) ?_ ?_ ?_ N d a0 S).mono (fun r S_q ⟨v, e, e1, e2⟩ => ⟨by rw [e, e1], e2⟩)
  · intro a S c; exact ⟨by unfold vf17 tk_bl; rw [if_pos (by simp [c])], rfl⟩
  · intro a S c c_q; exact ⟨by unfold vf17 tk_bl; rw [if_neg (by simp [c, c_q])], rfl⟩
  · intro a S c c_q; exact ⟨by unfold vf17 tk_bl; rw [if_pos (by simp [Classical.not_not.mp c_q])], rfl⟩
theorem ef18 (N d : Nat) (a0 : Int32) (S : ex_S) : ex_P N d 18 0 [.int a0] [] S (fun r S_q => r = some (.int (vf18 a0)) ∧ S_q = S) := by
  refine (ev18 (C := fun a S v S_q => v = vf18 a ∧ S_q = S) ?_ ?_ ?_ N d a0 S).mono (fun r S_q ⟨v, e, e1, e2⟩ => ⟨by rw [e, e1], e2⟩)
  · intro a S c; exact ⟨by unfold vf18 tk_le; rw [if_neg (by simp [Int32.not_le.mpr c])], rfl⟩
  · intro a S c c_q; exact ⟨by unfold vf18 tk_le; rw [if_neg (by simp [Int32.not_le.mpr c_q])], rfl⟩
  · intro a S c c_q; exact ⟨by unfold vf18 tk_le; rw [if_pos (by simp [Int32.not_lt.mp c, Int32.not_lt.mp c_q])], rfl⟩
theorem ef19 (N d : Nat) (a0 : Int32) (S : ex_S) : ex_P N d 19 0 [.int a0] [] S (fun r S_q => r = some (.int (vf19 a0)) ∧ S_q = S) := by
  refine (ev19 (C := fun a S v S_q => v = vf19 a ∧ S_q = S) ?_ ?_ ?_ N d a0 S).mono (fun r S_q ⟨v, e, e1, e2⟩ => ⟨by rw [e, e1], e2⟩)
  · intro a S c; exact ⟨by unfold vf19 tk_di; rw [if_neg (by simp [Int32.not_le.mpr c])], rfl⟩
  · intro a S c c_q; exact ⟨by unfold vf19 tk_di; rw [if_neg (by simp [Int32.not_le.mpr c_q])], rfl⟩
  · intro a S c c_q; exact ⟨by unfold vf19 tk_di; rw [if_pos (by simp [Int32.not_lt.mp c, Int32.not_lt.mp c_q])], rfl⟩
theorem ef174 (N d : Nat) (a0 a1 a2 : Int32) (S : ex_S) : ex_P N d 174 0 [.int a0, .int a1, .int a2] [] S (fun r S_q => r = some (.int (vf174 a0 a1 a2)) ∧ S_q = S) := by
  refine (ev174 (C := fun a b c S v S_q => v = vf174 a b c ∧ S_q = S) ?_ ?_ ?_ N d a0 a1 a2 S).mono (fun r S_q ⟨v, e, e1, e2⟩ => ⟨by rw [e, e1], e2⟩)
  · intro a b c S w; exact ⟨by unfold vf174; rw [if_neg (fun z => Int32.not_le.mpr w z.1)], rfl⟩
  · intro a b c S w w_q; exact ⟨by unfold vf174; rw [if_neg (fun z => Int32.not_le.mpr w_q z.2)], rfl⟩
  · intro a b c S w w_q; exact ⟨by unfold vf174; rw [if_pos ⟨Int32.not_lt.mp w, Int32.not_lt.mp w_q⟩], rfl⟩
theorem ef176 (N d : Nat) (a0 : Int32) (S : ex_S) : ex_P N d 176 0 [.int a0] [] S (fun r S_q => r = some (.int (vf176 a0)) ∧ S_q = S) := by
  refine (ev176 (C := fun a S v S_q => v = vf176 a ∧ S_q = S) ?_ ?_ N d a0 S).mono (fun r S_q ⟨v, e, e1, e2⟩ => ⟨by rw [e, e1], e2⟩)
  · intro a S c; exact ⟨by unfold vf176; rw [if_neg c], rfl⟩
  · intro a S c; exact ⟨by unfold vf176; rw [if_pos (Classical.not_not.mp c)], rfl⟩
theorem ef180 (N d : Nat) (S : ex_S) : ex_P N d 180 0 [.ref 41] [] S (fun r S_q => r = some (.int (vf180 S)) ∧ S_q = S) := by
  refine (ev180 (C := fun S v S_q => v = vf180 S ∧ S_q = S) ?_ ?_ N d S).mono (fun r S_q ⟨v, e, e1, e2⟩ => ⟨by rw [e, e1], e2⟩)
  · intro S c; exact ⟨by unfold vf180; rw [if_pos c], rfl⟩
  · intro S c; exact ⟨by unfold vf180; rw [if_neg c], rfl⟩
end
