section
set_option maxRecDepth 100000 in
set_option maxHeartbeats 4000000 in
/-- SilentTable.ways -/
theorem cl_c81 {d : Nat} {ck : cl_K} {E : Nat → pm_E} {m : Nat → Int32} {o : Nat → Option Nat} {h : pm_H} {Q : Option Value → pm_H → Prop} {a0 : Int32} {a1 : Int32} {a2 : Int32} (G : cl_G ck E) (T : cl_T ck E m o h)  (K : ∀ (r : Int64) (m_q : Nat → Int32) (o_q : Nat → Option Nat) (h_q : pm_H), cl_T ck E m_q o_q h_q → cl_F ck [16, 33, 34] 2 23403 h h_q → rf_W [] m m_q → Q (some (.long r)) h_q) (K2 : ∀ (r : Int64) (m_q : Nat → Int32) (o_q : Nat → Option Nat) (ck_q : cl_K) (h_q : pm_H), (∀ b, b < h.1 → ck_q b = ck b) → cl_G ck_q E → cl_T ck_q E m_q o_q h_q → cl_F ck [16, 33, 34] 2 23403 h h_q → rf_W [] m m_q → Q (some (.long r)) h_q) : pm_R (d + 4) 81 0 [.ref 16, .int a0, .int a1, .int a2, pm_no, pm_no] [] h Q := by
  refine pm_R_lo pm_M81 (pc_q := 1) rfl rfl rfl ?_
  refine pm_R_lo pm_M81 (pc_q := 2) rfl rfl rfl ?_
  refine pm_R_cv pm_M81 (pc_q := 5) (a := 16) (ra := [.int a0]) (rest := []) (ls_q := [.ref 16, .int a0]) rfl rfl (Or.inl rfl) pm_M62 T.e16 rfl (by decide) (T.lt (by decide)) rfl rfl (Nat.le_of_ble_eq_true rfl) rfl rfl ?_
  refine pm_R_lo pm_M62 (pc_q := 1) rfl rfl rfl ?_
  refine pm_R_ifc pm_M62 (t := 17) (pc_q := 4) rfl rfl rfl (fun c1 => ?_) (fun c1 => ?_)
  · have B2 : sf_B (-2147483648) (-1) a0 := sf_ltL c1 (sf_any a0) sf_k0
    refine pm_R_op pm_M62 (pc_q := 18) (st_q := [.null]) rfl rfl rfl ?_
    refine pm_R_br pm_M62 (pc_q := 30) rfl rfl ?_
    refine pm_R_ret pm_M62 (r := some (.null)) rfl rfl ?_
    show pm_R _ 81 5 [.ref 16, .int a0, .int a1, .int a2, pm_no, pm_no] [.null] _ _
    refine pm_R_lo pm_M81 (pc_q := 7) (ls_q := [.ref 16, .int a0, .int a1, .int a2, .null, pm_no]) (st_q := []) rfl rfl rfl ?_
    refine pm_R_lo pm_M81 (pc_q := 8) rfl rfl rfl ?_
    refine pm_R_lo pm_M81 (pc_q := 9) rfl rfl rfl ?_
    refine pm_R_cv pm_M81 (pc_q := 12) (a := 16) (ra := [.int a1]) (rest := []) (ls_q := [.ref 16, .int a1]) rfl rfl (Or.inl rfl) pm_M66 T.e16 rfl (by decide) (T.lt (by decide)) rfl rfl (Nat.le_of_ble_eq_true rfl) rfl rfl ?_
    refine pm_R_lo pm_M66 (pc_q := 1) rfl rfl rfl ?_
    refine pm_R_ifc pm_M66 (t := 17) (pc_q := 4) rfl rfl rfl (fun c3 => ?_) (fun c3 => ?_)
    · have B4 : sf_B (-2147483648) (-1) a1 := sf_ltL c3 (sf_any a1) sf_k0
      refine pm_R_op pm_M66 (pc_q := 18) (st_q := [.null]) rfl rfl rfl ?_
      refine pm_R_br pm_M66 (pc_q := 30) rfl rfl ?_
      refine pm_R_ret pm_M66 (r := some (.null)) rfl rfl ?_
      show pm_R _ 81 12 [.ref 16, .int a0, .int a1, .int a2, .null, pm_no] [.null] _ _
      refine pm_R_lo pm_M81 (pc_q := 14) (ls_q := [.ref 16, .int a0, .int a1, .int a2, .null, .null]) (st_q := []) rfl rfl rfl ?_
      refine pm_R_lo pm_M81 (pc_q := 16) rfl rfl rfl ?_
      refine pm_R_br pm_M81 (pc_q := 31) rfl rfl ?_
      refine pm_R_ldc2 pm_M81 (pc_q := 34) rfl rfl rfl ?_
      exact pm_R_ret pm_M81 (r := some (.long (-1))) rfl rfl (K (-1) m o h T ((cl_F.refl (ck := ck) (A := [16, 33, 34]) (n := 0) (s := 0) T.1).weak (by decide) (by decide)) (rf_W.refl [] m))
    · have B5 : sf_B 0 2147483647 a1 := sf_leR (Int32.not_lt.mp c3) sf_k0 (sf_any a1)
      refine pm_R_lo pm_M66 (pc_q := 5) rfl rfl rfl ?_
      refine pm_R_lo pm_M66 (pc_q := 6) rfl rfl rfl ?_
      refine pm_R_get pm_M66 (pc_q := 9) (v := .ref 17) rfl rfl T.e16 (by decide) (T.lt (by decide)) rfl rfl ?_
      refine pm_R_get pm_M66 (pc_q := 12) (v := .ref 23) rfl rfl T.e17 (by decide) (T.lt (by decide)) rfl rfl ?_
      refine pm_R_op pm_M66 (pc_q := 13) (st_q := [.int 1, .ref 23, .int a1]) rfl rfl rfl ?_
      obtain ⟨f9, e10, b11⟩ := T.C 23 (by decide) (by decide)
      obtain ⟨z6, ez7⟩ : ∃ y, f9 (Int32.toNatClampNeg 1) = y := ⟨_, rfl⟩
      have B8 : sf_B 0 3 z6 := ez7 ▸ (b11 1)
      refine pm_R_iald pm_M66 (pc_q := 14) (v := z6) rfl e10 (T.lt (by decide)) rfl ez7 rfl ?_
      refine pm_R_icmp pm_M66 (t := 21) (pc_q := 17) rfl rfl rfl (fun c12 => ?_) (fun c12 => ?_)
      · have B13 : sf_B 0 2 a1 := sf_ltL c12 B5 B8
        have B14 : sf_B 1 3 z6 := sf_ltR c12 B5 B8
        refine pm_R_lo pm_M66 (pc_q := 22) rfl rfl rfl ?_
        refine pm_R_get pm_M66 (pc_q := 25) (v := .ref 17) rfl rfl T.e16 (by decide) (T.lt (by decide)) rfl rfl ?_
        refine pm_R_get pm_M66 (pc_q := 28) (v := .ref 20) rfl rfl T.e17 (by decide) (T.lt (by decide)) rfl rfl ?_
        refine pm_R_lo pm_M66 (pc_q := 29) rfl rfl rfl ?_
        obtain ⟨f15, e16, b17⟩ := T.C 20 (by decide) (by decide)
        obtain ⟨l18, hx19⟩ := cl_there1 T e10 e16 ez7 c12 B13 (by decide)
        have hk20 := b17 _ _ hx19
        refine pm_R_aald pm_M66 (pc_q := 30) (v := .ref l18) rfl e16 (by decide) (by decide) (by decide) (T.lt (by decide)) (sf_in B13 (by decide) (by decide)) (by rw [hx19]; rfl) rfl ?_
        refine pm_R_ret pm_M66 (r := some (.ref l18)) rfl rfl ?_
        show pm_R _ 81 12 [.ref 16, .int a0, .int a1, .int a2, .null, pm_no] [.ref l18] _ _
        refine pm_R_lo pm_M81 (pc_q := 14) (ls_q := [.ref 16, .int a0, .int a1, .int a2, .null, .ref l18]) (st_q := []) rfl rfl rfl ?_
        refine pm_R_lo pm_M81 (pc_q := 16) rfl rfl rfl ?_
        refine pm_R_br pm_M81 (pc_q := 31) rfl rfl ?_
        refine pm_R_ldc2 pm_M81 (pc_q := 34) rfl rfl rfl ?_
        exact pm_R_ret pm_M81 (r := some (.long (-1))) rfl rfl (K (-1) m o h T ((cl_F.refl (ck := ck) (A := [16, 33, 34]) (n := 0) (s := 0) T.1).weak (by decide) (by decide)) (rf_W.refl [] m))
      · skip
        refine pm_R_op pm_M66 (pc_q := 18) (st_q := [.null]) rfl rfl rfl ?_
        refine pm_R_br pm_M66 (pc_q := 30) rfl rfl ?_
        refine pm_R_ret pm_M66 (r := some (.null)) rfl rfl ?_
        show pm_R _ 81 12 [.ref 16, .int a0, .int a1, .int a2, .null, pm_no] [.null] _ _
        refine pm_R_lo pm_M81 (pc_q := 14) (ls_q := [.ref 16, .int a0, .int a1, .int a2, .null, .null]) (st_q := []) rfl rfl rfl ?_
        refine pm_R_lo pm_M81 (pc_q := 16) rfl rfl rfl ?_
        refine pm_R_br pm_M81 (pc_q := 31) rfl rfl ?_
        refine pm_R_ldc2 pm_M81 (pc_q := 34) rfl rfl rfl ?_
        exact pm_R_ret pm_M81 (r := some (.long (-1))) rfl rfl (K (-1) m o h T ((cl_F.refl (ck := ck) (A := [16, 33, 34]) (n := 0) (s := 0) T.1).weak (by decide) (by decide)) (rf_W.refl [] m))
  · have B21 : sf_B 0 2147483647 a0 := sf_leR (Int32.not_lt.mp c1) sf_k0 (sf_any a0)
    refine pm_R_lo pm_M62 (pc_q := 5) rfl rfl rfl ?_
    refine pm_R_lo pm_M62 (pc_q := 6) rfl rfl rfl ?_
    refine pm_R_get pm_M62 (pc_q := 9) (v := .ref 17) rfl rfl T.e16 (by decide) (T.lt (by decide)) rfl rfl ?_
    refine pm_R_get pm_M62 (pc_q := 12) (v := .ref 23) rfl rfl T.e17 (by decide) (T.lt (by decide)) rfl rfl ?_
    refine pm_R_op pm_M62 (pc_q := 13) (st_q := [.int 0, .ref 23, .int a0]) rfl rfl rfl ?_
    obtain ⟨f25, e26, b27⟩ := T.C 23 (by decide) (by decide)
    obtain ⟨z22, ez23⟩ : ∃ y, f25 (Int32.toNatClampNeg 0) = y := ⟨_, rfl⟩
    have B24 : sf_B 0 2 z22 := ez23 ▸ (b27 0)
    refine pm_R_iald pm_M62 (pc_q := 14) (v := z22) rfl e26 (T.lt (by decide)) rfl ez23 rfl ?_
    refine pm_R_icmp pm_M62 (t := 21) (pc_q := 17) rfl rfl rfl (fun c28 => ?_) (fun c28 => ?_)
    · have B29 : sf_B 0 1 a0 := sf_ltL c28 B21 B24
      have B30 : sf_B 1 2 z22 := sf_ltR c28 B21 B24
      refine pm_R_lo pm_M62 (pc_q := 22) rfl rfl rfl ?_
      refine pm_R_get pm_M62 (pc_q := 25) (v := .ref 17) rfl rfl T.e16 (by decide) (T.lt (by decide)) rfl rfl ?_
      refine pm_R_get pm_M62 (pc_q := 28) (v := .ref 19) rfl rfl T.e17 (by decide) (T.lt (by decide)) rfl rfl ?_
      refine pm_R_lo pm_M62 (pc_q := 29) rfl rfl rfl ?_
      obtain ⟨f31, e32, b33⟩ := T.C 19 (by decide) (by decide)
      obtain ⟨l34, hx35⟩ := cl_there0 T e26 e32 ez23 c28 B29 (by decide)
      have hk36 := b33 _ _ hx35
      refine pm_R_aald pm_M62 (pc_q := 30) (v := .ref l34) rfl e32 (by decide) (by decide) (by decide) (T.lt (by decide)) (sf_in B29 (by decide) (by decide)) (by rw [hx35]; rfl) rfl ?_
      refine pm_R_ret pm_M62 (r := some (.ref l34)) rfl rfl ?_
      show pm_R _ 81 5 [.ref 16, .int a0, .int a1, .int a2, pm_no, pm_no] [.ref l34] _ _
      refine pm_R_lo pm_M81 (pc_q := 7) (ls_q := [.ref 16, .int a0, .int a1, .int a2, .ref l34, pm_no]) (st_q := []) rfl rfl rfl ?_
      refine pm_R_lo pm_M81 (pc_q := 8) rfl rfl rfl ?_
      refine pm_R_lo pm_M81 (pc_q := 9) rfl rfl rfl ?_
      refine pm_R_cv pm_M81 (pc_q := 12) (a := 16) (ra := [.int a1]) (rest := []) (ls_q := [.ref 16, .int a1]) rfl rfl (Or.inl rfl) pm_M66 T.e16 rfl (by decide) (T.lt (by decide)) rfl rfl (Nat.le_of_ble_eq_true rfl) rfl rfl ?_
      refine pm_R_lo pm_M66 (pc_q := 1) rfl rfl rfl ?_
      refine pm_R_ifc pm_M66 (t := 17) (pc_q := 4) rfl rfl rfl (fun c37 => ?_) (fun c37 => ?_)
      · have B38 : sf_B (-2147483648) (-1) a1 := sf_ltL c37 (sf_any a1) sf_k0
        refine pm_R_op pm_M66 (pc_q := 18) (st_q := [.null]) rfl rfl rfl ?_
        refine pm_R_br pm_M66 (pc_q := 30) rfl rfl ?_
        refine pm_R_ret pm_M66 (r := some (.null)) rfl rfl ?_
        show pm_R _ 81 12 [.ref 16, .int a0, .int a1, .int a2, .ref l34, pm_no] [.null] _ _
        refine pm_R_lo pm_M81 (pc_q := 14) (ls_q := [.ref 16, .int a0, .int a1, .int a2, .ref l34, .null]) (st_q := []) rfl rfl rfl ?_
        refine pm_R_lo pm_M81 (pc_q := 16) rfl rfl rfl ?_
        refine pm_R_br pm_M81 (pc_q := 19) rfl rfl ?_
        refine pm_R_lo pm_M81 (pc_q := 21) rfl rfl rfl ?_
        refine pm_R_br pm_M81 (pc_q := 31) rfl rfl ?_
        refine pm_R_ldc2 pm_M81 (pc_q := 34) rfl rfl rfl ?_
        exact pm_R_ret pm_M81 (r := some (.long (-1))) rfl rfl (K (-1) m o h T ((cl_F.refl (ck := ck) (A := [16, 33, 34]) (n := 0) (s := 0) T.1).weak (by decide) (by decide)) (rf_W.refl [] m))
      · have B39 : sf_B 0 2147483647 a1 := sf_leR (Int32.not_lt.mp c37) sf_k0 (sf_any a1)
        refine pm_R_lo pm_M66 (pc_q := 5) rfl rfl rfl ?_
        refine pm_R_lo pm_M66 (pc_q := 6) rfl rfl rfl ?_
        refine pm_R_get pm_M66 (pc_q := 9) (v := .ref 17) rfl rfl T.e16 (by decide) (T.lt (by decide)) rfl rfl ?_
        refine pm_R_get pm_M66 (pc_q := 12) (v := .ref 23) rfl rfl T.e17 (by decide) (T.lt (by decide)) rfl rfl ?_
        refine pm_R_op pm_M66 (pc_q := 13) (st_q := [.int 1, .ref 23, .int a1]) rfl rfl rfl ?_
        obtain ⟨z40, ez41⟩ : ∃ y, f25 (Int32.toNatClampNeg 1) = y := ⟨_, rfl⟩
        have B42 : sf_B 0 3 z40 := ez41 ▸ (b27 1)
        refine pm_R_iald pm_M66 (pc_q := 14) (v := z40) rfl e26 (T.lt (by decide)) rfl ez41 rfl ?_
        refine pm_R_icmp pm_M66 (t := 21) (pc_q := 17) rfl rfl rfl (fun c43 => ?_) (fun c43 => ?_)
        · have B44 : sf_B 0 2 a1 := sf_ltL c43 B39 B42
          have B45 : sf_B 1 3 z40 := sf_ltR c43 B39 B42
          refine pm_R_lo pm_M66 (pc_q := 22) rfl rfl rfl ?_
          refine pm_R_get pm_M66 (pc_q := 25) (v := .ref 17) rfl rfl T.e16 (by decide) (T.lt (by decide)) rfl rfl ?_
          refine pm_R_get pm_M66 (pc_q := 28) (v := .ref 20) rfl rfl T.e17 (by decide) (T.lt (by decide)) rfl rfl ?_
          refine pm_R_lo pm_M66 (pc_q := 29) rfl rfl rfl ?_
          obtain ⟨f46, e47, b48⟩ := T.C 20 (by decide) (by decide)
          obtain ⟨l49, hx50⟩ := cl_there1 T e26 e47 ez41 c43 B44 (by decide)
          have hk51 := b48 _ _ hx50
          refine pm_R_aald pm_M66 (pc_q := 30) (v := .ref l49) rfl e47 (by decide) (by decide) (by decide) (T.lt (by decide)) (sf_in B44 (by decide) (by decide)) (by rw [hx50]; rfl) rfl ?_
          refine pm_R_ret pm_M66 (r := some (.ref l49)) rfl rfl ?_
          show pm_R _ 81 12 [.ref 16, .int a0, .int a1, .int a2, .ref l34, pm_no] [.ref l49] _ _
          refine pm_R_lo pm_M81 (pc_q := 14) (ls_q := [.ref 16, .int a0, .int a1, .int a2, .ref l34, .ref l49]) (st_q := []) rfl rfl rfl ?_
          refine pm_R_lo pm_M81 (pc_q := 16) rfl rfl rfl ?_
          refine pm_R_br pm_M81 (pc_q := 19) rfl rfl ?_
          refine pm_R_lo pm_M81 (pc_q := 21) rfl rfl rfl ?_
          refine pm_R_br pm_M81 (pc_q := 24) rfl rfl ?_
          refine pm_R_lo pm_M81 (pc_q := 25) rfl rfl rfl ?_
          refine pm_R_cs pm_M81 (pc_q := 28) (ra := [.int a2]) (rest := []) (ls_q := [.int a2]) rfl rfl (Or.inl rfl) pm_M82 rfl rfl (Nat.le_of_ble_eq_true rfl) rfl rfl ?_
          refine pm_R_lo pm_M82 (pc_q := 1) rfl rfl rfl ?_
          refine pm_R_ifc pm_M82 (t := 14) (pc_q := 4) rfl rfl rfl (fun c52 => ?_) (fun c52 => ?_)
          · have B53 : sf_B (-2147483648) (-1) a2 := sf_ltL c52 (sf_any a2) sf_k0
            refine pm_R_op pm_M82 (pc_q := 15) (st_q := [.int 0]) rfl rfl rfl ?_
            refine pm_R_ret pm_M82 (r := some (.int 0)) rfl rfl ?_
            show pm_R _ 81 28 [.ref 16, .int a0, .int a1, .int a2, .ref l34, .ref l49] [.int 0] _ _
            refine pm_R_br pm_M81 (pc_q := 31) (st_q := []) rfl rfl ?_
            refine pm_R_ldc2 pm_M81 (pc_q := 34) rfl rfl rfl ?_
            exact pm_R_ret pm_M81 (r := some (.long (-1))) rfl rfl (K (-1) m o h T ((cl_F.refl (ck := ck) (A := [16, 33, 34]) (n := 0) (s := 0) T.1).weak (by decide) (by decide)) (rf_W.refl [] m))
          · have B54 : sf_B 0 2147483647 a2 := sf_leR (Int32.not_lt.mp c52) sf_k0 (sf_any a2)
            refine pm_R_lo pm_M82 (pc_q := 5) rfl rfl rfl ?_
            refine pm_R_op pm_M82 (pc_q := 7) (st_q := [.int 50, .int a2]) rfl rfl rfl ?_
            refine pm_R_icmp pm_M82 (t := 14) (pc_q := 10) rfl rfl rfl (fun c55 => ?_) (fun c55 => ?_)
            · have B56 : sf_B 50 2147483647 a2 := sf_leR c55 sf_k50 B54
              refine pm_R_op pm_M82 (pc_q := 15) (st_q := [.int 0]) rfl rfl rfl ?_
              refine pm_R_ret pm_M82 (r := some (.int 0)) rfl rfl ?_
              show pm_R _ 81 28 [.ref 16, .int a0, .int a1, .int a2, .ref l34, .ref l49] [.int 0] _ _
              refine pm_R_br pm_M81 (pc_q := 31) (st_q := []) rfl rfl ?_
              refine pm_R_ldc2 pm_M81 (pc_q := 34) rfl rfl rfl ?_
              exact pm_R_ret pm_M81 (r := some (.long (-1))) rfl rfl (K (-1) m o h T ((cl_F.refl (ck := ck) (A := [16, 33, 34]) (n := 0) (s := 0) T.1).weak (by decide) (by decide)) (rf_W.refl [] m))
            · have B57 : sf_B 0 49 a2 := sf_ltL (Int32.not_le.mp c55) B54 sf_k50
              refine pm_R_op pm_M82 (pc_q := 11) (st_q := [.int 1]) rfl rfl rfl ?_
              refine pm_R_br pm_M82 (pc_q := 15) rfl rfl ?_
              refine pm_R_ret pm_M82 (r := some (.int 1)) rfl rfl ?_
              show pm_R _ 81 28 [.ref 16, .int a0, .int a1, .int a2, .ref l34, .ref l49] [.int 1] _ _
              refine pm_R_br pm_M81 (pc_q := 35) (st_q := []) rfl rfl ?_
              refine pm_R_lo pm_M81 (pc_q := 36) rfl rfl rfl ?_
              refine pm_R_get pm_M81 (pc_q := 39) (v := .ref 33) rfl rfl T.e16 (by decide) (T.lt (by decide)) rfl rfl ?_
              refine pm_R_lo pm_M81 (pc_q := 41) rfl rfl rfl ?_
              refine pm_R_lo pm_M81 (pc_q := 43) rfl rfl rfl ?_
              refine pm_R_cv pm_M81 (pc_q := 46) (a := 33) (ra := [.ref l49, .ref l34]) (rest := []) (ls_q := [.ref 33, .ref l34, .ref l49, pm_no, pm_no]) rfl rfl (Or.inl rfl) pm_M70 T.e33 rfl (by decide) (T.lt (by decide)) rfl rfl (Nat.le_of_ble_eq_true rfl) rfl rfl ?_
              refine cl_c70 (d := d + 0) G T hk36 hk51 (fun m60 o65 h61 T62 F63 W64 X66 X67 => ?_)
              have F68 := (cl_F.refl (ck := ck) (A := [16, 33, 34]) (n := 0) (s := 0) T.1).trans (N := 0) (S := 0) F63 (by decide) (by decide) (by decide)
              have W69 : rf_W [] m m60 := (rf_W.refl [] m).trans W64 (by decide)
              show pm_R _ 81 46 [.ref 16, .int a0, .int a1, .int a2, .ref l34, .ref l49] [] _ _
              exact cl_c81_m (d := d + 0) G T62 B57 X66 X67 (fun r m9 o9 ck9 h9 q1 q2 q3 q4 q5 q6 q7 q8 q9 => K2 r m9 o9 ck9 h9 (fun b hb => q1 b (Nat.lt_of_lt_of_le hb F68.2.1)) q2 q3 (F68.trans q8 (by decide) (by decide) (by decide)) (W69.trans q9 (by decide)))
        · skip
          refine pm_R_op pm_M66 (pc_q := 18) (st_q := [.null]) rfl rfl rfl ?_
          refine pm_R_br pm_M66 (pc_q := 30) rfl rfl ?_
          refine pm_R_ret pm_M66 (r := some (.null)) rfl rfl ?_
          show pm_R _ 81 12 [.ref 16, .int a0, .int a1, .int a2, .ref l34, pm_no] [.null] _ _
          refine pm_R_lo pm_M81 (pc_q := 14) (ls_q := [.ref 16, .int a0, .int a1, .int a2, .ref l34, .null]) (st_q := []) rfl rfl rfl ?_
          refine pm_R_lo pm_M81 (pc_q := 16) rfl rfl rfl ?_
          refine pm_R_br pm_M81 (pc_q := 19) rfl rfl ?_
          refine pm_R_lo pm_M81 (pc_q := 21) rfl rfl rfl ?_
          refine pm_R_br pm_M81 (pc_q := 31) rfl rfl ?_
          refine pm_R_ldc2 pm_M81 (pc_q := 34) rfl rfl rfl ?_
          exact pm_R_ret pm_M81 (r := some (.long (-1))) rfl rfl (K (-1) m o h T ((cl_F.refl (ck := ck) (A := [16, 33, 34]) (n := 0) (s := 0) T.1).weak (by decide) (by decide)) (rf_W.refl [] m))
    · skip
      refine pm_R_op pm_M62 (pc_q := 18) (st_q := [.null]) rfl rfl rfl ?_
      refine pm_R_br pm_M62 (pc_q := 30) rfl rfl ?_
      refine pm_R_ret pm_M62 (r := some (.null)) rfl rfl ?_
      show pm_R _ 81 5 [.ref 16, .int a0, .int a1, .int a2, pm_no, pm_no] [.null] _ _
      refine pm_R_lo pm_M81 (pc_q := 7) (ls_q := [.ref 16, .int a0, .int a1, .int a2, .null, pm_no]) (st_q := []) rfl rfl rfl ?_
      refine pm_R_lo pm_M81 (pc_q := 8) rfl rfl rfl ?_
      refine pm_R_lo pm_M81 (pc_q := 9) rfl rfl rfl ?_
      refine pm_R_cv pm_M81 (pc_q := 12) (a := 16) (ra := [.int a1]) (rest := []) (ls_q := [.ref 16, .int a1]) rfl rfl (Or.inl rfl) pm_M66 T.e16 rfl (by decide) (T.lt (by decide)) rfl rfl (Nat.le_of_ble_eq_true rfl) rfl rfl ?_
      refine pm_R_lo pm_M66 (pc_q := 1) rfl rfl rfl ?_
      refine pm_R_ifc pm_M66 (t := 17) (pc_q := 4) rfl rfl rfl (fun c70 => ?_) (fun c70 => ?_)
      · have B71 : sf_B (-2147483648) (-1) a1 := sf_ltL c70 (sf_any a1) sf_k0
        refine pm_R_op pm_M66 (pc_q := 18) (st_q := [.null]) rfl rfl rfl ?_
        refine pm_R_br pm_M66 (pc_q := 30) rfl rfl ?_
        refine pm_R_ret pm_M66 (r := some (.null)) rfl rfl ?_
        show pm_R _ 81 12 [.ref 16, .int a0, .int a1, .int a2, .null, pm_no] [.null] _ _
        refine pm_R_lo pm_M81 (pc_q := 14) (ls_q := [.ref 16, .int a0, .int a1, .int a2, .null, .null]) (st_q := []) rfl rfl rfl ?_
        refine pm_R_lo pm_M81 (pc_q := 16) rfl rfl rfl ?_
        refine pm_R_br pm_M81 (pc_q := 31) rfl rfl ?_
        refine pm_R_ldc2 pm_M81 (pc_q := 34) rfl rfl rfl ?_
        exact pm_R_ret pm_M81 (r := some (.long (-1))) rfl rfl (K (-1) m o h T ((cl_F.refl (ck := ck) (A := [16, 33, 34]) (n := 0) (s := 0) T.1).weak (by decide) (by decide)) (rf_W.refl [] m))
      · have B72 : sf_B 0 2147483647 a1 := sf_leR (Int32.not_lt.mp c70) sf_k0 (sf_any a1)
        refine pm_R_lo pm_M66 (pc_q := 5) rfl rfl rfl ?_
        refine pm_R_lo pm_M66 (pc_q := 6) rfl rfl rfl ?_
        refine pm_R_get pm_M66 (pc_q := 9) (v := .ref 17) rfl rfl T.e16 (by decide) (T.lt (by decide)) rfl rfl ?_
        refine pm_R_get pm_M66 (pc_q := 12) (v := .ref 23) rfl rfl T.e17 (by decide) (T.lt (by decide)) rfl rfl ?_
        refine pm_R_op pm_M66 (pc_q := 13) (st_q := [.int 1, .ref 23, .int a1]) rfl rfl rfl ?_
        obtain ⟨z73, ez74⟩ : ∃ y, f25 (Int32.toNatClampNeg 1) = y := ⟨_, rfl⟩
        have B75 : sf_B 0 3 z73 := ez74 ▸ (b27 1)
        refine pm_R_iald pm_M66 (pc_q := 14) (v := z73) rfl e26 (T.lt (by decide)) rfl ez74 rfl ?_
        refine pm_R_icmp pm_M66 (t := 21) (pc_q := 17) rfl rfl rfl (fun c76 => ?_) (fun c76 => ?_)
        · have B77 : sf_B 0 2 a1 := sf_ltL c76 B72 B75
          have B78 : sf_B 1 3 z73 := sf_ltR c76 B72 B75
          refine pm_R_lo pm_M66 (pc_q := 22) rfl rfl rfl ?_
          refine pm_R_get pm_M66 (pc_q := 25) (v := .ref 17) rfl rfl T.e16 (by decide) (T.lt (by decide)) rfl rfl ?_
          refine pm_R_get pm_M66 (pc_q := 28) (v := .ref 20) rfl rfl T.e17 (by decide) (T.lt (by decide)) rfl rfl ?_
          refine pm_R_lo pm_M66 (pc_q := 29) rfl rfl rfl ?_
          obtain ⟨f79, e80, b81⟩ := T.C 20 (by decide) (by decide)
          obtain ⟨l82, hx83⟩ := cl_there1 T e26 e80 ez74 c76 B77 (by decide)
          have hk84 := b81 _ _ hx83
          refine pm_R_aald pm_M66 (pc_q := 30) (v := .ref l82) rfl e80 (by decide) (by decide) (by decide) (T.lt (by decide)) (sf_in B77 (by decide) (by decide)) (by rw [hx83]; rfl) rfl ?_
          refine pm_R_ret pm_M66 (r := some (.ref l82)) rfl rfl ?_
          show pm_R _ 81 12 [.ref 16, .int a0, .int a1, .int a2, .null, pm_no] [.ref l82] _ _
          refine pm_R_lo pm_M81 (pc_q := 14) (ls_q := [.ref 16, .int a0, .int a1, .int a2, .null, .ref l82]) (st_q := []) rfl rfl rfl ?_
          refine pm_R_lo pm_M81 (pc_q := 16) rfl rfl rfl ?_
          refine pm_R_br pm_M81 (pc_q := 31) rfl rfl ?_
          refine pm_R_ldc2 pm_M81 (pc_q := 34) rfl rfl rfl ?_
          exact pm_R_ret pm_M81 (r := some (.long (-1))) rfl rfl (K (-1) m o h T ((cl_F.refl (ck := ck) (A := [16, 33, 34]) (n := 0) (s := 0) T.1).weak (by decide) (by decide)) (rf_W.refl [] m))
        · skip
          refine pm_R_op pm_M66 (pc_q := 18) (st_q := [.null]) rfl rfl rfl ?_
          refine pm_R_br pm_M66 (pc_q := 30) rfl rfl ?_
          refine pm_R_ret pm_M66 (r := some (.null)) rfl rfl ?_
          show pm_R _ 81 12 [.ref 16, .int a0, .int a1, .int a2, .null, pm_no] [.null] _ _
          refine pm_R_lo pm_M81 (pc_q := 14) (ls_q := [.ref 16, .int a0, .int a1, .int a2, .null, .null]) (st_q := []) rfl rfl rfl ?_
          refine pm_R_lo pm_M81 (pc_q := 16) rfl rfl rfl ?_
          refine pm_R_br pm_M81 (pc_q := 31) rfl rfl ?_
          refine pm_R_ldc2 pm_M81 (pc_q := 34) rfl rfl rfl ?_
          exact pm_R_ret pm_M81 (r := some (.long (-1))) rfl rfl (K (-1) m o h T ((cl_F.refl (ck := ck) (A := [16, 33, 34]) (n := 0) (s := 0) T.1).weak (by decide) (by decide)) (rf_W.refl [] m))
end
section
section
/-! cells made new: a group of kinds, one behind the other (1 LIST, 7 ROW, 9 MEAL, 13 HOUSE, 15 image, 22 ways, 24 short ROWS) -/
def cl_gr (ck : cl_K) (t n k0 : Nat) : cl_K := fun a => if t ≤ a ∧ a < t + n then k0 + (a - t) else ck a
def cl_gp (k0 n : Nat) : Prop := (k0 = 1 ∧ n = 6) ∨ (k0 = 7 ∧ n = 2) ∨ (k0 = 9 ∧ n = 4) ∨ (k0 = 13 ∧ n = 2) ∨ (k0 = 15 ∧ n = 7) ∨ (k0 = 22 ∧ n = 2) ∨ (k0 = 24 ∧ n = 5)
theorem cl_gr_lt {ck : cl_K} {t n k0 a : Nat} (h : a < t) : cl_gr ck t n k0 a = ck a := by
  unfold cl_gr; rw [if_neg (by omega)]
theorem cl_gr_new {ck : cl_K} {t n k0 i : Nat} (h : i < n) : cl_gr ck t n k0 (t + i) = k0 + i := by
  unfold cl_gr; rw [if_pos (by omega)]; omega
theorem cl_gr_new0 {ck : cl_K} {t n k0 : Nat} (h : 0 < n) : cl_gr ck t n k0 t = k0 := cl_gr_new (i := 0) h
theorem cl_gr_back {ck : cl_K} {t n k0 a k : Nat} (h : cl_gr ck t n k0 a = k) : (t ≤ a ∧ a < t + n ∧ k = k0 + (a - t)) ∨ ck a = k := by
  unfold cl_gr at h
  by_cases e : t ≤ a ∧ a < t + n
  · rw [if_pos e] at h; exact Or.inl ⟨e.1, e.2, h.symm⟩
  · rw [if_neg e] at h; exact Or.inr h
theorem cl_gr_old {ck : cl_K} {t n k0 : Nat} (hlt : ∀ a, ck a ≠ 0 → a < t) (b : Nat) (hb : ck b ≠ 0) : cl_gr ck t n k0 b = ck b := cl_gr_lt (hlt b hb)
theorem cl_L.congr {E E_q : Nat → pm_E} {a : Nat} (h0 : E_q a = E a) (h1 : E_q (a + 1) = E (a + 1)) (h2 : E_q (a + 2) = E (a + 2)) (h3 : E_q (a + 3) = E (a + 3)) (h4 : E_q (a + 4) = E (a + 4)) (h5 : E_q (a + 5) = E (a + 5)) (x : cl_L E a) : cl_L E_q a := by
  unfold cl_L; rw [h0, h1, h2, h3, h4, h5]; exact x
theorem cl_R.congr {E E_q : Nat → pm_E} {a : Nat} (h0 : E_q a = E a) (h1 : E_q (a + 1) = E (a + 1)) (x : cl_R E a) : cl_R E_q a := by
  unfold cl_R; rw [h0, h1]; exact x
theorem cl_M.congr {E E_q : Nat → pm_E} {a : Nat} (h0 : E_q a = E a) (h1 : E_q (a + 1) = E (a + 1)) (h2 : E_q (a + 2) = E (a + 2)) (h3 : E_q (a + 3) = E (a + 3)) (x : cl_M E a) : cl_M E_q a := by
  unfold cl_M; rw [h0, h1, h2, h3]; exact x
theorem cl_H.congr {E E_q : Nat → pm_E} {a : Nat} (h0 : E_q a = E a) (h1 : E_q (a + 1) = E (a + 1)) (x : cl_H E a) : cl_H E_q a := by
  unfold cl_H; rw [h0, h1]; exact x
theorem cl_gr_G {ck : cl_K} {E E_q : Nat → pm_E} {t n k0 : Nat} (G : cl_G ck E) (hlt : ∀ a, ck a ≠ 0 → a < t) (ht : 72 ≤ t) (hg : cl_gp k0 n) (hE : ∀ a, a < t → E_q a = E a) (n1 : k0 = 1 → cl_L E_q t) (n7 : k0 = 7 → cl_R E_q t) (n9 : k0 = 9 → cl_M E_q t) (n13 : k0 = 13 → cl_H E_q t) : cl_G (cl_gr ck t n k0) E_q := by
  obtain ⟨g0, g1, g7, g9, g13, g15, g22, g24, gs⟩ := G
  unfold cl_gp at hg
  have lt : ∀ b k, k ≠ 0 → ck b = k → b < t := fun b k hk hb => hlt b (by rw [hb]; exact hk)
  have old := fun (b k : Nat) (hk : k ≠ 0) (hb : ck b = k) => (cl_gr_old (n := n) (k0 := k0) hlt b (by rw [hb]; exact hk)).trans hb
  refine ⟨fun a ha => ?_, fun a ha => ?_, fun a ha => ?_, fun a ha => ?_, fun a ha => ?_, fun a ha => ?_, fun a ha => ?_, fun a ha => ?_, ?_⟩
  · by_cases e : t ≤ a
    · omega
    · rw [cl_gr_lt (by omega)] at ha; exact g0 a ha
  · rcases cl_gr_back ha with z | z
    · have q : k0 = 1 ∧ a = t ∧ n = 6 := by omega
      obtain ⟨q1, q2, q3⟩ := q
      subst q1; subst q2; subst q3
      exact ⟨cl_gr_new (by decide), cl_gr_new (by decide), cl_gr_new (by decide), cl_gr_new (by decide), cl_gr_new (by decide), n1 rfl⟩
    · obtain ⟨a1, a2, a3, a4, a5, a6⟩ := g1 a z
      exact ⟨old _ _ (by decide) a1, old _ _ (by decide) a2, old _ _ (by decide) a3, old _ _ (by decide) a4, old _ _ (by decide) a5, a6.congr (hE _ (lt _ _ (by decide) z)) (hE _ (lt _ _ (by decide) a1)) (hE _ (lt _ _ (by decide) a2)) (hE _ (lt _ _ (by decide) a3)) (hE _ (lt _ _ (by decide) a4)) (hE _ (lt _ _ (by decide) a5))⟩
  · rcases cl_gr_back ha with z | z
    · have q : k0 = 7 ∧ a = t ∧ n = 2 := by omega
      obtain ⟨q1, q2, q3⟩ := q
      subst q1; subst q2; subst q3
      exact ⟨cl_gr_new (by decide), n7 rfl⟩
    · obtain ⟨a1, a2⟩ := g7 a z
      exact ⟨old _ _ (by decide) a1, a2.congr (hE _ (lt _ _ (by decide) z)) (hE _ (lt _ _ (by decide) a1))⟩
  · rcases cl_gr_back ha with z | z
    · have q : k0 = 9 ∧ a = t ∧ n = 4 := by omega
      obtain ⟨q1, q2, q3⟩ := q
      subst q1; subst q2; subst q3
      exact ⟨cl_gr_new (by decide), cl_gr_new (by decide), cl_gr_new (by decide), n9 rfl⟩
    · obtain ⟨a1, a2, a3, a4⟩ := g9 a z
      exact ⟨old _ _ (by decide) a1, old _ _ (by decide) a2, old _ _ (by decide) a3, a4.congr (hE _ (lt _ _ (by decide) z)) (hE _ (lt _ _ (by decide) a1)) (hE _ (lt _ _ (by decide) a2)) (hE _ (lt _ _ (by decide) a3))⟩
  · rcases cl_gr_back ha with z | z
    · have q : k0 = 13 ∧ a = t ∧ n = 2 := by omega
      obtain ⟨q1, q2, q3⟩ := q
      subst q1; subst q2; subst q3
      exact ⟨cl_gr_new (by decide), n13 rfl⟩
    · obtain ⟨a1, a2⟩ := g13 a z
      exact ⟨old _ _ (by decide) a1, a2.congr (hE _ (lt _ _ (by decide) z)) (hE _ (lt _ _ (by decide) a1))⟩
  · rcases cl_gr_back ha with z | z
    · have q : k0 = 15 ∧ a = t ∧ n = 7 := by omega
      obtain ⟨q1, q2, q3⟩ := q
      subst q1; subst q2; subst q3
      exact ⟨cl_gr_new (by decide), cl_gr_new (by decide), cl_gr_new (by decide), cl_gr_new (by decide), cl_gr_new (by decide), cl_gr_new (by decide)⟩
    · obtain ⟨a1, a2, a3, a4, a5, a6⟩ := g15 a z
      exact ⟨old _ _ (by decide) a1, old _ _ (by decide) a2, old _ _ (by decide) a3, old _ _ (by decide) a4, old _ _ (by decide) a5, old _ _ (by decide) a6⟩
  · rcases cl_gr_back ha with z | z
    · have q : k0 = 22 ∧ a = t ∧ n = 2 := by omega
      obtain ⟨q1, q2, q3⟩ := q
      subst q1; subst q2; subst q3
      exact cl_gr_new (by decide)
    · exact old _ _ (by decide) (g22 a z)
  · rcases cl_gr_back ha with z | z
    · have q : k0 = 24 ∧ a = t ∧ n = 5 := by omega
      obtain ⟨q1, q2, q3⟩ := q
      subst q1; subst q2; subst q3
      exact ⟨cl_gr_new (by decide), cl_gr_new (by decide), cl_gr_new (by decide), cl_gr_new (by decide)⟩
    · obtain ⟨a1, a2, a3, a4⟩ := g24 a z
      exact ⟨old _ _ (by decide) a1, old _ _ (by decide) a2, old _ _ (by decide) a3, old _ _ (by decide) a4⟩
  · unfold cl_S
    rw [hE 1 (by omega), hE 2 (by omega), hE 3 (by omega), hE 4 (by omega), hE 5 (by omega), hE 6 (by omega), hE 7 (by omega), hE 8 (by omega), hE 9 (by omega), hE 10 (by omega), hE 11 (by omega), hE 12 (by omega), hE 13 (by omega), hE 14 (by omega)]
    exact gs
/-- an image at a -/
def cl_I (ck : cl_K) (h : pm_H) (a : Nat) : Prop := ∃ s t u : Int32, sf_B 0 600 s ∧ sf_B 0 4 t ∧ sf_B (-1) 600 u ∧ h.2.2 a = .inr (8, [.ref (a + 1), .int s, .int t, .int u, .ref (a + 2), .ref (a + 3), .ref (a + 4), .ref (a + 5), .ref (a + 6)]) ∧ cl_C ck 18 (h.2.2 (a + 1)) ∧ cl_C ck 19 (h.2.2 (a + 2)) ∧ cl_C ck 20 (h.2.2 (a + 3)) ∧ cl_C ck 21 (h.2.2 (a + 4)) ∧ cl_C ck 22 (h.2.2 (a + 5)) ∧ cl_C ck 23 (h.2.2 (a + 6)) ∧ cl_N (h.2.2 (a + 2)) (h.2.2 (a + 3)) (h.2.2 (a + 4)) (h.2.2 (a + 5)) (h.2.2 (a + 6))
theorem cl_gr_D {ck : cl_K} {E : Nat → pm_E} {h h_q : pm_H} {t n k0 : Nat} (G : cl_G ck E) (D : cl_D ck h) (hlt : ∀ a, ck a ≠ 0 → a < t) (hg : cl_gp k0 n) (hh : ∀ a, a < t → 15 ≤ ck a → h_q.2.2 a = h.2.2 a) (n15 : k0 = 15 → cl_I (cl_gr ck t n k0) h_q t) (n22 : k0 = 22 → h_q.2.2 t = .inr (10, [.ref (t + 1), .null, .null]) ∧ ∃ f, h_q.2.2 (t + 1) = .inl (1, 23400, .inr (.inl f))) (n24 : k0 = 24 → (∃ (fi av ah an : Int32), sf_B 0 4 fi ∧ sf_B (-1) 11109 an ∧ h_q.2.2 t = .inr (3, [.ref (t + 1), .ref (t + 2), .ref (t + 3), .ref (t + 4), .null, .int fi, .int av, .int ah, .int an])) ∧ (∃ f, h_q.2.2 (t + 1) = .inl (0, 15, .inl f)) ∧ (∃ f, h_q.2.2 (t + 2) = .inl (1, 6666, .inr (.inl f))) ∧ (∃ f, h_q.2.2 (t + 3) = .inl (0, 6666, .inl f)) ∧ (∃ f, h_q.2.2 (t + 4) = .inl (2, 11110, .inl f))) : cl_D (cl_gr ck t n k0) h_q := by
  have hck := cl_gr_old (n := n) (k0 := k0) hlt
  have keep : ∀ a k, 15 ≤ k → ck a = k → h_q.2.2 a = h.2.2 a := fun a k hk e => hh a (hlt a (by omega)) (by omega)
  have old := fun (b k : Nat) (hk : k ≠ 0) (hb : ck b = k) => (hck b (by rw [hb]; exact hk)).trans hb
  unfold cl_gp at hg
  obtain ⟨d15, d22, d23, d24, d25, d26, d27, d28⟩ := D
  refine ⟨fun a ha => ?_, fun a ha => ?_, fun a ha => ?_, fun a ha => ?_, fun a ha => ?_, fun a ha => ?_, fun a ha => ?_, fun a ha => ?_⟩
  · rcases cl_gr_back ha with z | hz
    · have q : k0 = 15 ∧ a = t := by omega
      obtain ⟨q1, q2⟩ := q
      subst q2
      exact n15 q1
    · obtain ⟨i1, i2, i3, i4, i5, i6⟩ := G.2.2.2.2.2.1 a hz
      obtain ⟨s, t_q, u, b1, b2, b3, e, c1, c2, c3, c4, c5, c6, nn⟩ := d15 a hz
      rw [← keep a _ (by decide) hz] at e
      rw [← keep _ _ (by decide) i1] at c1
      rw [← keep _ _ (by decide) i2] at c2
      rw [← keep _ _ (by decide) i3] at c3
      rw [← keep _ _ (by decide) i4] at c4
      rw [← keep _ _ (by decide) i5] at c5
      rw [← keep _ _ (by decide) i6] at c6
      rw [← keep _ _ (by decide) i2, ← keep _ _ (by decide) i3, ← keep _ _ (by decide) i4, ← keep _ _ (by decide) i5, ← keep _ _ (by decide) i6] at nn
      exact ⟨s, t_q, u, b1, b2, b3, e, c1.mono hck, c2.mono hck, c3.mono hck, c4.mono hck, c5.mono hck, c6.mono hck, nn⟩
  · rcases cl_gr_back ha with z | hz
    · have q : k0 = 22 ∧ a = t := by omega
      obtain ⟨q1, q2⟩ := q
      subst q2
      refine ⟨none, none, (n22 q1).1, ?_, ?_⟩
      · intro b hb; exact absurd hb (by simp)
      · intro b hb; exact absurd hb (by simp)
    · obtain ⟨l, r, x, y, z⟩ := d22 a hz
      exact ⟨l, r, by rw [keep a _ (by decide) hz]; exact x, fun b hb => old _ _ (by decide) (y b hb), fun b hb => old _ _ (by decide) (z b hb)⟩
  · rcases cl_gr_back ha with z | hz
    · have q : k0 = 22 ∧ a = t + 1 := by omega
      obtain ⟨q1, q2⟩ := q
      subst q2
      exact (n22 q1).2
    · rw [keep a _ (by decide) hz]; exact d23 a hz
  · rcases cl_gr_back ha with z | hz
    · have q : k0 = 24 ∧ a = t := by omega
      obtain ⟨q1, q2⟩ := q
      subst q2
      obtain ⟨fi, av, ah, an, b1, b2, e⟩ := (n24 q1).1
      exact ⟨none, fi, av, ah, an, b1, b2, e, fun b hb => absurd hb (by simp)⟩
    · obtain ⟨l, fi, av, ah, an, b1, b2, x, y⟩ := d24 a hz
      exact ⟨l, fi, av, ah, an, b1, b2, by rw [keep a _ (by decide) hz]; exact x, fun b hb => old _ _ (by decide) (y b hb)⟩
  · rcases cl_gr_back ha with z | hz
    · have q : k0 = 24 ∧ a = t + 1 := by omega
      obtain ⟨q1, q2⟩ := q
      subst q2
      exact (n24 q1).2.1
    · rw [keep a _ (by decide) hz]; exact d25 a hz
  · rcases cl_gr_back ha with z | hz
    · have q : k0 = 24 ∧ a = t + 2 := by omega
      obtain ⟨q1, q2⟩ := q
      subst q2
      exact (n24 q1).2.2.1
    · rw [keep a _ (by decide) hz]; exact d26 a hz
  · rcases cl_gr_back ha with z | hz
    · have q : k0 = 24 ∧ a = t + 3 := by omega
      obtain ⟨q1, q2⟩ := q
      subst q2
      exact (n24 q1).2.2.2.1
    · rw [keep a _ (by decide) hz]; exact d27 a hz
  · rcases cl_gr_back ha with z | hz
    · have q : k0 = 24 ∧ a = t + 4 := by omega
      obtain ⟨q1, q2⟩ := q
      subst q2
      exact (n24 q1).2.2.2.2
    · rw [keep a _ (by decide) hz]; exact d28 a hz
/-- a group of cells made new at the heap's end -/
theorem cl_T.grow {ck : cl_K} {E E_q : Nat → pm_E} {m : Nat → Int32} {o : Nat → Option Nat} {h h_q : pm_H} {n k0 : Nat} (G : cl_G ck E) (T : cl_T ck E m o h) (hg : cl_gp k0 n) (hE : ∀ a, a < h.1 → E_q a = E a) (hh : ∀ a, a < h.1 → h_q.2.2 a = h.2.2 a) (h1 : h.1 + n ≤ h_q.1) (him : k0 < 15 → ∀ i, i < n → h_q.2.2 (h.1 + i) = E_q (h.1 + i)) (n15 : k0 = 15 → cl_I (cl_gr ck h.1 n k0) h_q h.1) (n22 : k0 = 22 → h_q.2.2 h.1 = .inr (10, [.ref (h.1 + 1), .null, .null]) ∧ ∃ f, h_q.2.2 (h.1 + 1) = .inl (1, 23400, .inr (.inl f))) (n24 : k0 = 24 → (∃ (fi av ah an : Int32), sf_B 0 4 fi ∧ sf_B (-1) 11109 an ∧ h_q.2.2 h.1 = .inr (3, [.ref (h.1 + 1), .ref (h.1 + 2), .ref (h.1 + 3), .ref (h.1 + 4), .null, .int fi, .int av, .int ah, .int an])) ∧ (∃ f, h_q.2.2 (h.1 + 1) = .inl (0, 15, .inl f)) ∧ (∃ f, h_q.2.2 (h.1 + 2) = .inl (1, 6666, .inr (.inl f))) ∧ (∃ f, h_q.2.2 (h.1 + 3) = .inl (0, 6666, .inl f)) ∧ (∃ f, h_q.2.2 (h.1 + 4) = .inl (2, 11110, .inl f))) : cl_T (cl_gr ck h.1 n k0) E_q m o h_q := by
  have hlt := T.2.2.2.2.2.2.2.2.2.2.1
  have h72 := T.1
  refine T.ext (cl_gr_old hlt) (fun a ha => hE a (by omega)) hh (by omega) (fun a ha => ?_) (fun a a1 a2 => ?_) (cl_gr_D G T.D hlt hg (fun a ha _ => hh a ha) n15 n22 n24)
  · by_cases e : h.1 ≤ a ∧ a < h.1 + n
    · omega
    · unfold cl_gr at ha; rw [if_neg e] at ha; have := hlt a ha; omega
  · rcases cl_gr_back (k := cl_gr ck h.1 n k0 a) rfl with z | z
    · have := him (by omega) (a - h.1) (by omega)
      rw [show h.1 + (a - h.1) = a by omega] at this
      exact this
    · rw [← z] at a1 a2
      have hz := hlt a (by omega)
      rw [hh a hz, hE a hz]
      exact T.2.2.2.2.2.2.2.2.2.2.2.1 a a1 a2
end
end
section
section
/-! all short ROWS: what is written, what is made -/
variable {d mid pc pc_q : Nat} {ls st : List Value} {h : pm_H} {Q : Option Value → pm_H → Prop} {q : pm_M} {l_q : List (Nat × Instr × Nat)} {L : Nat} {ck : cl_K} {E : Nat → pm_E} {m : Nat → Int32} {o : Nat → Option Nat}
theorem sf_subP1 {x y z : Int32} {a b : Int} (e : z.toInt = x.toInt - y.toInt) (p : y < x) (B : sf_B a b z) : sf_B 1 b z := by
  have := Int32.lt_iff_toInt_lt.mp p
  exact ⟨by omega, B.2⟩
theorem cl_tab {l : List Int32} {lo hi a b : Int} {j : Int32} (h : sf_B lo hi j) (h0 : 0 ≤ lo) (hd : ((List.range (hi.toNat + 1)).all (fun k => decide ((k : Int) < lo) || (decide (a ≤ (l.getD k 0).toInt) && decide ((l.getD k 0).toInt ≤ b)))) = true) : sf_B a b (l.getD j.toNatClampNeg 0) := by
  have e : j.toNatClampNeg = j.toInt.toNat := rfl
  have h1 := h.1
  have h2 := h.2
  have := List.all_eq_true.mp hd j.toNatClampNeg (List.mem_range.mpr (by rw [e]; omega))
  simp only [Bool.or_eq_true, Bool.and_eq_true, decide_eq_true_eq] at this
  rcases this with x | x
  · exfalso; rw [e] at x; omega
  · exact ⟨x.1, x.2⟩
theorem cl_R_sput (G : cl_G ck E) (hM : pm_Mt mid q l_q) (T : cl_T ck E m o h) {ix b k lo : Nat} {nb : Bool} {qq : vw_C} {v x0 : Value} {fi av ah an fi' av' ah' an' : Int32} (hf : pm_find l_q pc = some (.putfield ix, L)) (hF : pm_at pm_FL q.2.2.2.2 ix = some (3, k, nb)) (hq : pm_cl[3]? = some qq) (h3 : k < 9) (hv : pm_fits (pm_ty qq.2.1 k) v = true) (hfin : (qq.2.1 k).2.2.2 = false) (hk : ck b = 24) (hc : h.2.2 b = .inr (3, [.ref (b + 1), .ref (b + 2), .ref (b + 3), .ref (b + 4), x0, .int fi, .int av, .int ah, .int an])) (kl : ck lo = 1) (B1 : sf_B 0 4 fi') (B2 : sf_B (-1) 11109 an') (hs : List.set [.ref (b + 1), .ref (b + 2), .ref (b + 3), .ref (b + 4), x0, .int fi, .int av, .int ah, .int an] k v = [.ref (b + 1), .ref (b + 2), .ref (b + 3), .ref (b + 4), .ref lo, .int fi', .int av', .int ah', .int an']) (hp : pc + 3 = pc_q) (kk : ∀ h_q, cl_T ck E m o h_q → cl_F ck [] 0 0 h h_q → h_q.2.2 b = .inr (3, [.ref (b + 1), .ref (b + 2), .ref (b + 3), .ref (b + 4), .ref lo, .int fi', .int av', .int ah', .int an']) → cl_NT ck h h_q → pm_R d mid pc_q ls st h_q Q) : pm_R d mid pc ls (v :: .ref b :: st) h Q := by
  refine pm_R_put hM hf hF hq hc (G.ge hk (by decide)) (T.al hk (by decide)) h3 hv (Or.inl hfin) hs hp (kk _ (T.mut G hk (by decide) (T.D.keep G hk (by decide) (fun z => absurd z (by decide)) (fun z => absurd z (by decide)) (fun _ => ⟨some lo, fi', av', ah', an', B1, B2, rfl, fun z hz => by cases hz; exact kl⟩) (fun z => absurd z (by decide)) (fun z => absurd z (by decide)) (fun z => absurd z (by decide)) (fun z => absurd z (by decide)))) ((rf_G.one _ _ _).mut T.1 hk (by decide)) cl_set_eq (fun c hc9 z => ?_))
  by_cases e : c = b
  · subst e; exact ⟨lo, fi', av', ah', an', kl, B1, B2, cl_set_eq⟩
  · obtain ⟨lo2, fi2, av2, ah2, an2, z1, z2, z3, z4⟩ := z
    exact ⟨lo2, fi2, av2, ah2, an2, z1, z2, z3, (cl_set_ne e).trans z4⟩
theorem rf_G.NT {A : List Nat} {h_q : pm_H} (G : cl_G ck E) (x : rf_G A h h_q) (hA : ∀ a ∈ A, a < 72) : ∀ c, ck c = 24 → h_q.2.2 c = h.2.2 c := fun c hc => x.2.2 c (fun z => by have := hA c z; have := G.1 c (by rw [hc]; decide); omega)
theorem cl_NN.lift {ck_q : cl_K} {h_q : pm_H} {c : Nat} (hck : ∀ b, ck b ≠ 0 → ck_q b = ck b) (hh : h_q.2.2 c = h.2.2 c) (x : cl_NN ck h c) : cl_NN ck_q h_q c := by
  obtain ⟨lo, fi, av, ah, an, z1, z2, z3, z4⟩ := x
  exact ⟨lo, fi, av, ah, an, (hck lo (by rw [z1]; decide)).trans z1, z2, z3, hh.trans z4⟩
theorem cl_T.put37 (G : cl_G ck E) (T : cl_T ck E m o h) {f : Nat → Option Nat} (hx : cl_O ck 24 f) : cl_T ck E m o (pm_set h 37 (.inl (9, 2, .inr (.inr (.inr (.inr f)))))) := by
  refine ⟨T.1, by rw [cl_set_ne (by omega)]; exact T.e16, by rw [cl_set_ne (by omega)]; exact T.e17, by rw [cl_set_ne (by omega)]; exact T.e25, by rw [cl_set_ne (by omega)]; exact T.e30, by rw [cl_set_ne (by omega)]; exact T.e31, by rw [cl_set_ne (by omega)]; exact T.e33, T.B, fun b b1 b2 => ?_, ?_, T.2.2.2.2.2.2.2.2.2.2.1, fun b b1 b2 => ?_, cl_D.low G T.D (fun b hb => cl_set_ne (by omega)), T.oo, fun b hb => by rw [cl_set_ne (by omega)]; exact T.old hb⟩
  · by_cases hb : b = 37
    · subst hb; rw [cl_set_eq]; exact ⟨f, rfl, hx⟩
    · rw [cl_set_ne hb]; exact T.C b b1 b2
  · rw [cl_set_ne (by omega), cl_set_ne (by omega), cl_set_ne (by omega), cl_set_ne (by omega), cl_set_ne (by omega)]; exact T.N
  · have := G.1 b (by omega)
    rw [cl_set_ne (by omega)]
    exact T.2.2.2.2.2.2.2.2.2.2.2.1 b b1 b2
theorem cl_R_acmpE (hM : pm_Mt mid q l_q) {off : Int} {x : Option Nat} {a t : Nat} (hf : pm_find l_q pc = some (.if_acmp .eq off, L)) (ht : pm_to pc off = some t) (hp : pc + 3 = pc_q) (ha : 16 ≤ a) (hx : ∀ b, x = some b → 16 ≤ b) (kt : x = some a → pm_R d mid t ls st h Q) (kf : ¬ x = some a → pm_R d mid pc_q ls st h Q) : pm_R d mid pc ls (.ref a :: va_rf x :: st) h Q := by
  subst hp
  have e1 : pm_ref (.ref a) = some (some a) := by show (if 16 ≤ a then some (some a) else none) = _; rw [if_pos ha]
  have e2 : pm_ref (va_rf x) = some x := by
    cases x with
    | none => rfl
    | some b => show (if 16 ≤ b then some (some b) else none) = _; rw [if_pos (hx b rfl)]
  have e : pm_br (.if_acmp .eq off) pc (.ref a :: va_rf x :: st) = pm_if (x = some a) inferInstance pc off st := by
    show (pm_ref (.ref a)).bind (fun b => (pm_ref (va_rf x)).bind (fun a => pm_if (a = b) inferInstance pc off st)) = _
    rw [e1, e2]
    rfl
  have e3 : pm_if (x = some a) inferInstance pc off st = some (if x = some a then t else pc + 3, st) := by
    unfold pm_if
    rw [ht]
    rfl
  refine pm_R_br hM hf (e.trans e3) ?_
  by_cases hc : x = some a
  · rw [if_pos hc]; exact kt hc
  · rw [if_neg hc]; exact kf hc
/-- serve -/
theorem cl_c124 {b lo : Nat} (G : cl_G ck E) (T : cl_T ck E m o h) (hk : ck b = 24) (hkl : ck lo = 1) (K : ∀ h_q, cl_T ck E m o h_q → cl_F ck [] 0 0 h h_q → cl_NN ck h_q b → cl_NT ck h h_q → Q none h_q) : pm_R (d + 0) 124 0 [.ref b, .ref lo] [] h Q := by
  obtain ⟨l, fi, av, ah, an, B1, B2, e, kl⟩ := T.D.2.2.2.1 b hk
  refine pm_R_lo pm_M124 (pc_q := 1) rfl rfl rfl ?_
  refine pm_R_get pm_M124 (pc_q := 4) (v := va_rf l) rfl rfl e (G.ge hk (by decide)) (T.al hk (by decide)) rfl rfl ?_
  refine pm_R_lo pm_M124 (pc_q := 5) rfl rfl rfl ?_
  have put : ∀ x0, h.2.2 b = .inr (3, [.ref (b + 1), .ref (b + 2), .ref (b + 3), .ref (b + 4), x0, .int fi, .int av, .int ah, .int an]) → pm_R (d + 0) 124 8 [.ref b, .ref lo] [] h Q := fun x0 e => by
    refine pm_R_lo pm_M124 (pc_q := 9) rfl rfl rfl ?_
    refine pm_R_lo pm_M124 (pc_q := 10) rfl rfl rfl ?_
    refine cl_R_sput (lo := lo) (fi' := fi) (av' := av) (ah' := ah) (an' := an) G pm_M124 T (pc_q := 13) rfl rfl rfl (by decide) rfl rfl hk e hkl B1 B2 rfl rfl (fun h1 T1 F1 e1 N1 => ?_)
    refine pm_R_lo pm_M124 (pc_q := 14) rfl rfl rfl ?_
    refine pm_R_op pm_M124 (pc_q := 15) (st_q := [.int 0, .ref b]) rfl rfl rfl ?_
    refine cl_R_sput (lo := lo) (fi' := 0) (av' := av) (ah' := ah) (an' := an) G pm_M124 T1 (pc_q := 18) rfl rfl rfl (by decide) rfl rfl hk e1 hkl ⟨by decide, by decide⟩ B2 rfl rfl (fun h2 T2 F2 e2 N2 => ?_)
    refine pm_R_lo pm_M124 (pc_q := 19) rfl rfl rfl ?_
    refine pm_R_op pm_M124 (pc_q := 20) (st_q := [.int (-1), .ref b]) rfl rfl rfl ?_
    refine cl_R_sput (lo := lo) (fi' := 0) (av' := -1) (ah' := ah) (an' := an) G pm_M124 T2 (pc_q := 23) rfl rfl rfl (by decide) rfl rfl hk e2 hkl ⟨by decide, by decide⟩ B2 rfl rfl (fun h3 T3 F3 e3 N3 => ?_)
    refine pm_R_ret pm_M124 (r := none) rfl rfl (K _ T3 ((F1.trans F2 (by decide) (Nat.le_refl _) (Nat.le_refl _)).trans F3 (by decide) (Nat.le_refl _) (Nat.le_refl _)) ⟨lo, 0, -1, ah, an, hkl, ⟨by decide, by decide⟩, B2, e3⟩ ((N1.trans N2).trans N3))
  refine cl_R_acmpE pm_M124 (x := l) (t := 23) (pc_q := 8) rfl rfl rfl (G.ge hkl (by decide)) (fun z hz => G.ge (kl z hz) (by decide)) (fun hl => ?_) (fun hl => put _ e)
  subst hl
  exact pm_R_ret pm_M124 (r := none) rfl rfl (K _ T (cl_F.refl T.1) ⟨lo, fi, av, ah, an, hkl, B1, B2, e⟩ (cl_NT.refl _ _))
end
end
section
section
/-! the charts of short ROWS are made, and found -/
theorem cl_x123 {d : Nat} {h : pm_H} {Q : Option Value → pm_H → Prop} {t : Nat} (ht : h.2.2 t = .inr (3, [.null, .null, .null, .null, .null, .int 0, .int 0, .int 0, .int 0])) (h16 : 16 ≤ t) (hlt : t < h.1) (K : ∀ h_q, h_q.1 = h.1 + 4 → h_q.2.1 = h.2.1 + 24457 → h_q.2.2 t = .inr (3, [.ref h.1, .ref (h.1 + 1), .ref (h.1 + 2), .ref (h.1 + 3), .null, .int 0, .int (-1), .int (-1), .int (-1)]) → h_q.2.2 h.1 = .inl (0, 15, .inl (fun _ => (0 : Int32))) → h_q.2.2 (h.1 + 1) = .inl (1, 6666, .inr (.inl (fun _ => (0 : Int64)))) → h_q.2.2 (h.1 + 2) = .inl (0, 6666, .inl (fun _ => (0 : Int32))) → h_q.2.2 (h.1 + 3) = .inl (2, 11110, .inl (fun _ => (0 : Int32))) → (∀ b, b ≠ t → b < h.1 → h_q.2.2 b = h.2.2 b) → Q none h_q) : pm_R (d + 0) 123 0 [.ref t] [] h Q := by
  have new : ∀ (g : pm_H) (x : pm_E) (n a : Nat), a < g.1 → (pm_push g x n).2.2 a = g.2.2 a := fun g x n a ha => by
    have : a ≠ g.1 := by omega
    simp [pm_push, va_up, this]
  have nee : ∀ (g : pm_H) (x : pm_E) (n : Nat), (pm_push g x n).2.2 g.1 = x := fun g x n => by simp [pm_push, va_up]
  refine pm_R_lo pm_M123 (pc_q := 1) rfl rfl rfl ?_
  refine pm_R_obj pm_M123 (pc_q := 4) rfl rfl rfl (Nat.le_of_ble_eq_true rfl) rfl ?_
  refine pm_R_lo pm_M123 (pc_q := 5) rfl rfl rfl ?_
  refine pm_R_op pm_M123 (pc_q := 7) (st_q := [.int 15, .ref t]) rfl rfl rfl ?_
  refine pm_R_newa pm_M123 (pc_q := 9) (N := 15) rfl rfl (by decide) rfl (Nat.le_of_ble_eq_true rfl) rfl ?_
  obtain ⟨h1, e1⟩ : ∃ z, pm_push h (.inl (0, pm_newty 0 15)) 15 = z := ⟨_, rfl⟩
  have a1 : h1.1 = h.1 + 1 := by rw [← e1]; rfl
  have s1 : h1.2.1 = h.2.1 + 15 := by rw [← e1]; rfl
  have o1 : ∀ a, a < h.1 → h1.2.2 a = h.2.2 a := fun a ha => by rw [← e1]; exact new _ _ _ _ ha
  have n1 : h1.2.2 h.1 = .inl (0, 15, .inl (fun _ => (0 : Int32))) := by rw [← e1]; exact nee _ _ _
  rw [e1]
  refine pm_R_put pm_M123 (pc_q := 12) (fs_q := [.ref h.1, .null, .null, .null, .null, .int 0, .int 0, .int 0, .int 0]) rfl rfl rfl ((o1 t hlt).trans ht) h16 (by omega) (Nat.le_of_ble_eq_true rfl) rfl (Or.inr ⟨pm_N123_ini, rfl, rfl⟩) rfl rfl ?_
  obtain ⟨h2, e2⟩ : ∃ z, pm_set h1 t (.inr (3, [.ref h.1, .null, .null, .null, .null, .int 0, .int 0, .int 0, .int 0])) = z := ⟨_, rfl⟩
  have a2 : h2.1 = h.1 + 1 := by rw [← e2]; exact a1
  have s2 : h2.2.1 = h.2.1 + 15 := by rw [← e2]; exact s1
  have t2 : h2.2.2 t = .inr (3, [.ref h.1, .null, .null, .null, .null, .int 0, .int 0, .int 0, .int 0]) := by rw [← e2]; exact cl_set_eq
  have o2 : ∀ a, a ≠ t → h2.2.2 a = h1.2.2 a := fun a ha => by rw [← e2]; exact cl_set_ne ha
  rw [e2]
  refine pm_R_lo pm_M123 (pc_q := 13) rfl rfl rfl ?_
  refine pm_R_op pm_M123 (pc_q := 16) (st_q := [.int 6666, .ref t]) rfl rfl rfl ?_
  refine pm_R_newa pm_M123 (pc_q := 18) (N := 6666) rfl rfl (by decide) rfl (Nat.le_of_ble_eq_true rfl) rfl ?_
  obtain ⟨h3, e3⟩ : ∃ z, pm_push h2 (.inl (1, pm_newty 1 6666)) 6666 = z := ⟨_, rfl⟩
  have a3 : h3.1 = h.1 + 2 := by rw [← e3]; show h2.1 + 1 = _; omega
  have s3 : h3.2.1 = h.2.1 + 6681 := by rw [← e3]; show h2.2.1 + 6666 = _; omega
  have o3 : ∀ a, a < h2.1 → h3.2.2 a = h2.2.2 a := fun a ha => by rw [← e3]; exact new _ _ _ _ ha
  have n3 : h3.2.2 h2.1 = .inl (1, 6666, .inr (.inl (fun _ => (0 : Int64)))) := by rw [← e3]; exact nee _ _ _
  rw [e3]
  refine pm_R_put pm_M123 (pc_q := 21) (fs_q := [.ref h.1, .ref h2.1, .null, .null, .null, .int 0, .int 0, .int 0, .int 0]) rfl rfl rfl ((o3 t (by omega)).trans t2) h16 (by omega) (Nat.le_of_ble_eq_true rfl) rfl (Or.inr ⟨pm_N123_ini, rfl, rfl⟩) rfl rfl ?_
  obtain ⟨h4, e4⟩ : ∃ z, pm_set h3 t (.inr (3, [.ref h.1, .ref h2.1, .null, .null, .null, .int 0, .int 0, .int 0, .int 0])) = z := ⟨_, rfl⟩
  have a4 : h4.1 = h.1 + 2 := by rw [← e4]; exact a3
  have s4 : h4.2.1 = h.2.1 + 6681 := by rw [← e4]; exact s3
  have t4 : h4.2.2 t = .inr (3, [.ref h.1, .ref h2.1, .null, .null, .null, .int 0, .int 0, .int 0, .int 0]) := by rw [← e4]; exact cl_set_eq
  have o4 : ∀ a, a ≠ t → h4.2.2 a = h3.2.2 a := fun a ha => by rw [← e4]; exact cl_set_ne ha
  rw [e4]
  refine pm_R_lo pm_M123 (pc_q := 22) rfl rfl rfl ?_
  refine pm_R_op pm_M123 (pc_q := 25) (st_q := [.int 6666, .ref t]) rfl rfl rfl ?_
  refine pm_R_newa pm_M123 (pc_q := 27) (N := 6666) rfl rfl (by decide) rfl (Nat.le_of_ble_eq_true rfl) rfl ?_
  obtain ⟨h5, e5⟩ : ∃ z, pm_push h4 (.inl (0, pm_newty 0 6666)) 6666 = z := ⟨_, rfl⟩
  have a5 : h5.1 = h.1 + 3 := by rw [← e5]; show h4.1 + 1 = _; omega
  have s5 : h5.2.1 = h.2.1 + 13347 := by rw [← e5]; show h4.2.1 + 6666 = _; omega
  have o5 : ∀ a, a < h4.1 → h5.2.2 a = h4.2.2 a := fun a ha => by rw [← e5]; exact new _ _ _ _ ha
  have n5 : h5.2.2 h4.1 = .inl (0, 6666, .inl (fun _ => (0 : Int32))) := by rw [← e5]; exact nee _ _ _
  rw [e5]
  refine pm_R_put pm_M123 (pc_q := 30) (fs_q := [.ref h.1, .ref h2.1, .ref h4.1, .null, .null, .int 0, .int 0, .int 0, .int 0]) rfl rfl rfl ((o5 t (by omega)).trans t4) h16 (by omega) (Nat.le_of_ble_eq_true rfl) rfl (Or.inr ⟨pm_N123_ini, rfl, rfl⟩) rfl rfl ?_
  obtain ⟨h6, e6⟩ : ∃ z, pm_set h5 t (.inr (3, [.ref h.1, .ref h2.1, .ref h4.1, .null, .null, .int 0, .int 0, .int 0, .int 0])) = z := ⟨_, rfl⟩
  have a6 : h6.1 = h.1 + 3 := by rw [← e6]; exact a5
  have s6 : h6.2.1 = h.2.1 + 13347 := by rw [← e6]; exact s5
  have t6 : h6.2.2 t = .inr (3, [.ref h.1, .ref h2.1, .ref h4.1, .null, .null, .int 0, .int 0, .int 0, .int 0]) := by rw [← e6]; exact cl_set_eq
  have o6 : ∀ a, a ≠ t → h6.2.2 a = h5.2.2 a := fun a ha => by rw [← e6]; exact cl_set_ne ha
  rw [e6]
  refine pm_R_lo pm_M123 (pc_q := 31) rfl rfl rfl ?_
  refine pm_R_op pm_M123 (pc_q := 34) (st_q := [.int 11110, .ref t]) rfl rfl rfl ?_
  refine pm_R_newa pm_M123 (pc_q := 36) (N := 11110) rfl rfl (by decide) rfl (Nat.le_of_ble_eq_true rfl) rfl ?_
  obtain ⟨h7, e7⟩ : ∃ z, pm_push h6 (.inl (2, pm_newty 2 11110)) 11110 = z := ⟨_, rfl⟩
  have a7 : h7.1 = h.1 + 4 := by rw [← e7]; show h6.1 + 1 = _; omega
  have s7 : h7.2.1 = h.2.1 + 24457 := by rw [← e7]; show h6.2.1 + 11110 = _; omega
  have o7 : ∀ a, a < h6.1 → h7.2.2 a = h6.2.2 a := fun a ha => by rw [← e7]; exact new _ _ _ _ ha
  have n7 : h7.2.2 h6.1 = .inl (2, 11110, .inl (fun _ => (0 : Int32))) := by rw [← e7]; exact nee _ _ _
  rw [e7]
  refine pm_R_put pm_M123 (pc_q := 39) (fs_q := [.ref h.1, .ref h2.1, .ref h4.1, .ref h6.1, .null, .int 0, .int 0, .int 0, .int 0]) rfl rfl rfl ((o7 t (by omega)).trans t6) h16 (by omega) (Nat.le_of_ble_eq_true rfl) rfl (Or.inr ⟨pm_N123_ini, rfl, rfl⟩) rfl rfl ?_
  obtain ⟨h8, e8⟩ : ∃ z, pm_set h7 t (.inr (3, [.ref h.1, .ref h2.1, .ref h4.1, .ref h6.1, .null, .int 0, .int 0, .int 0, .int 0])) = z := ⟨_, rfl⟩
  have a8 : h8.1 = h.1 + 4 := by rw [← e8]; exact a7
  have s8 : h8.2.1 = h.2.1 + 24457 := by rw [← e8]; exact s7
  have t8 : h8.2.2 t = .inr (3, [.ref h.1, .ref (h.1 + 1), .ref (h.1 + 2), .ref (h.1 + 3), .null, .int 0, .int 0, .int 0, .int 0]) := by rw [← e8, cl_set_eq, a2, a4, a6]
  have o8 : ∀ a, a ≠ t → h8.2.2 a = h7.2.2 a := fun a ha => by rw [← e8]; exact cl_set_ne ha
  rw [e8]
  refine pm_R_lo pm_M123 (pc_q := 40) rfl rfl rfl ?_
  refine pm_R_op pm_M123 (pc_q := 41) (st_q := [.null, .ref t]) rfl rfl rfl ?_
  refine pm_R_put pm_M123 (pc_q := 44) (fs_q := [.ref h.1, .ref (h.1 + 1), .ref (h.1 + 2), .ref (h.1 + 3), .null, .int 0, .int 0, .int 0, .int 0]) rfl rfl rfl t8 h16 (by omega) (Nat.le_of_ble_eq_true rfl) rfl (Or.inl rfl) rfl rfl ?_
  refine pm_R_lo pm_M123 (pc_q := 45) rfl rfl rfl ?_
  refine pm_R_op pm_M123 (pc_q := 46) (st_q := [.int 0, .ref t]) rfl rfl rfl ?_
  refine pm_R_put pm_M123 (pc_q := 49) (fs_q := [.ref h.1, .ref (h.1 + 1), .ref (h.1 + 2), .ref (h.1 + 3), .null, .int 0, .int 0, .int 0, .int 0]) rfl rfl rfl cl_set_eq h16 (by show t < h8.1; omega) (Nat.le_of_ble_eq_true rfl) rfl (Or.inl rfl) rfl rfl ?_
  refine pm_R_lo pm_M123 (pc_q := 50) rfl rfl rfl ?_
  refine pm_R_op pm_M123 (pc_q := 51) (st_q := [.int (-1), .ref t]) rfl rfl rfl ?_
  refine pm_R_put pm_M123 (pc_q := 54) (fs_q := [.ref h.1, .ref (h.1 + 1), .ref (h.1 + 2), .ref (h.1 + 3), .null, .int 0, .int (-1), .int 0, .int 0]) rfl rfl rfl cl_set_eq h16 (by show t < h8.1; omega) (Nat.le_of_ble_eq_true rfl) rfl (Or.inl rfl) rfl rfl ?_
  refine pm_R_lo pm_M123 (pc_q := 55) rfl rfl rfl ?_
  refine pm_R_op pm_M123 (pc_q := 56) (st_q := [.int (-1), .ref t]) rfl rfl rfl ?_
  refine pm_R_put pm_M123 (pc_q := 59) (fs_q := [.ref h.1, .ref (h.1 + 1), .ref (h.1 + 2), .ref (h.1 + 3), .null, .int 0, .int (-1), .int (-1), .int 0]) rfl rfl rfl cl_set_eq h16 (by show t < h8.1; omega) (Nat.le_of_ble_eq_true rfl) rfl (Or.inl rfl) rfl rfl ?_
  refine pm_R_lo pm_M123 (pc_q := 60) rfl rfl rfl ?_
  refine pm_R_op pm_M123 (pc_q := 61) (st_q := [.int (-1), .ref t]) rfl rfl rfl ?_
  refine pm_R_put pm_M123 (pc_q := 64) (fs_q := [.ref h.1, .ref (h.1 + 1), .ref (h.1 + 2), .ref (h.1 + 3), .null, .int 0, .int (-1), .int (-1), .int (-1)]) rfl rfl rfl cl_set_eq h16 (by show t < h8.1; omega) (Nat.le_of_ble_eq_true rfl) rfl (Or.inl rfl) rfl rfl ?_
  refine pm_R_ret pm_M123 (r := none) rfl rfl (K _ a8 s8 cl_set_eq ?_ ?_ ?_ ?_ (fun b b1 b2 => ?_))
  · rw [cl_set_ne (by omega), cl_set_ne (by omega), cl_set_ne (by omega), cl_set_ne (by omega), cl_set_ne (by omega), o8 _ (by omega), o7 _ (by omega), o6 _ (by omega), o5 _ (by omega), o4 _ (by omega), o3 _ (by omega), o2 _ (by omega), n1]
  · rw [cl_set_ne (by omega), cl_set_ne (by omega), cl_set_ne (by omega), cl_set_ne (by omega), cl_set_ne (by omega), o8 _ (by omega), o7 _ (by omega), o6 _ (by omega), o5 _ (by omega), o4 _ (by omega), ← a2, n3]
  · rw [cl_set_ne (by omega), cl_set_ne (by omega), cl_set_ne (by omega), cl_set_ne (by omega), cl_set_ne (by omega), o8 _ (by omega), o7 _ (by omega), o6 _ (by omega), ← a4, n5]
  · rw [cl_set_ne (by omega), cl_set_ne (by omega), cl_set_ne (by omega), cl_set_ne (by omega), cl_set_ne (by omega), o8 _ (by omega), ← a6, n7]
  · rw [cl_set_ne b1, cl_set_ne b1, cl_set_ne b1, cl_set_ne b1, cl_set_ne b1, o8 _ b1, o7 _ (by omega), o6 _ b1, o5 _ (by omega), o4 _ b1, o3 _ (by omega), o2 _ b1, o1 _ b2]
/-- shortRows from the chart on -/
theorem cl_c122_t {d : Nat} {ck : cl_K} {E : Nat → pm_E} {m : Nat → Int32} {o : Nat → Option Nat} {h : pm_H} {Q : Option Value → pm_H → Prop} {a0 : Int32} {lo c : Nat} {fl fs : Nat → Option Nat} (G : cl_G ck E) (T : cl_T ck E m o h) (hj : pm_in a0 2 = true) (el : h.2.2 19 = .inl (4, 2, .inr (.inr (.inr (.inr fl))))) (hl : fl a0.toNatClampNeg = some lo) (es : h.2.2 37 = .inl (9, 2, .inr (.inr (.inr (.inr fs))))) (hs : fs a0.toNatClampNeg = some c) (hkl : ck lo = 1) (hk : ck c = 24) (K : ∀ h_q, cl_T ck E m o h_q → cl_F ck [] 0 0 h h_q → cl_NN ck h_q c → cl_NT ck h h_q → Q (some (.ref c)) h_q) : pm_R (d + 1) 122 22 [.ref 16, .int a0] [] h Q := by
  refine pm_R_lo pm_M122 (pc_q := 23) rfl rfl rfl ?_
  refine pm_R_get pm_M122 (pc_q := 26) (v := .ref 37) rfl rfl T.e16 (by decide) (T.lt (by decide)) rfl rfl ?_
  refine pm_R_lo pm_M122 (pc_q := 27) rfl rfl rfl ?_
  refine pm_R_aald pm_M122 (pc_q := 28) (v := .ref c) rfl es (by decide) (by decide) (by decide) (T.lt (by decide)) hj (by rw [hs]; rfl) rfl ?_
  refine pm_R_lo pm_M122 (pc_q := 29) rfl rfl rfl ?_
  refine pm_R_get pm_M122 (pc_q := 32) (v := .ref 17) rfl rfl T.e16 (by decide) (T.lt (by decide)) rfl rfl ?_
  refine pm_R_get pm_M122 (pc_q := 35) (v := .ref 19) rfl rfl T.e17 (by decide) (T.lt (by decide)) rfl rfl ?_
  refine pm_R_lo pm_M122 (pc_q := 36) rfl rfl rfl ?_
  refine pm_R_aald pm_M122 (pc_q := 37) (v := .ref lo) rfl el (by decide) (by decide) (by decide) (T.lt (by decide)) hj (by rw [hl]; rfl) rfl ?_
  obtain ⟨l0, fi, av, ah, an, B1, B2, e, kl⟩ := T.D.2.2.2.1 c hk
  refine pm_R_cv pm_M122 (pc_q := 40) (a := c) (ra := [.ref lo]) (rest := []) (ls_q := [.ref c, .ref lo]) rfl rfl (Or.inl rfl) pm_M124 e rfl (G.ge hk (by decide)) (T.al hk (by decide)) rfl rfl (Nat.le_of_ble_eq_true rfl) rfl rfl ?_
  refine cl_c124 (d := d) G T hk hkl (fun h_q T' F' N' NT' => ?_)
  show pm_R _ 122 40 [.ref 16, .int a0] [] _ _
  refine pm_R_lo pm_M122 (pc_q := 41) rfl rfl rfl ?_
  refine pm_R_get pm_M122 (pc_q := 44) (v := .ref 37) rfl rfl T'.e16 (by decide) (T'.lt (by decide)) rfl rfl ?_
  refine pm_R_lo pm_M122 (pc_q := 45) rfl rfl rfl ?_
  refine pm_R_aald pm_M122 (pc_q := 46) (v := .ref c) rfl (F'.cell G List.not_mem_nil (by decide) es) (by decide) (by decide) (by decide) (T'.lt (by decide)) hj (by rw [hs]; rfl) rfl ?_
  exact pm_R_ret pm_M122 (r := some (.ref c)) rfl rfl (K h_q T' F' N' NT')
/-- shortRows: the chart is there, or made -/
theorem cl_c122 {d : Nat} {ck : cl_K} {E : Nat → pm_E} {m : Nat → Int32} {o : Nat → Option Nat} {h : pm_H} {Q : Option Value → pm_H → Prop} {a0 : Int32} {lo : Nat} {fl : Nat → Option Nat} (G : cl_G ck E) (T : cl_T ck E m o h) (hj : pm_in a0 2 = true) (el : h.2.2 19 = .inl (4, 2, .inr (.inr (.inr (.inr fl))))) (hl : fl a0.toNatClampNeg = some lo) (hkl : ck lo = 1) (K : ∀ (c : Nat) (ck_q : cl_K) (h_q : pm_H), (∀ b, b < h.1 → ck_q b = ck b) → cl_G ck_q E → cl_T ck_q E m o h_q → cl_F ck [37] 5 24466 h h_q → ck_q c = 24 → cl_NN ck_q h_q c → (∀ c, ck c = 24 → cl_NN ck h c → cl_NN ck_q h_q c) → (∀ a, a < 72 → a ≠ 37 → h_q.2.2 a = h.2.2 a) → Q (some (.ref c)) h_q) : pm_R (d + 1) 122 0 [.ref 16, .int a0] [] h Q := by
  obtain ⟨fs, es, hO⟩ := T.C 37 (by decide) (by decide)
  refine pm_R_lo pm_M122 (pc_q := 1) rfl rfl rfl ?_
  refine pm_R_get pm_M122 (pc_q := 4) (v := .ref 37) rfl rfl T.e16 (by decide) (T.lt (by decide)) rfl rfl ?_
  refine pm_R_lo pm_M122 (pc_q := 5) rfl rfl rfl ?_
  rcases hs : fs a0.toNatClampNeg with _ | c
  · refine pm_R_aald pm_M122 (pc_q := 6) (v := .null) rfl es (by decide) (by decide) (by decide) (T.lt (by decide)) hj (by rw [hs]; rfl) rfl ?_
    refine pm_R_br pm_M122 (pc_q := 9) rfl rfl ?_
    refine pm_R_lo pm_M122 (pc_q := 10) rfl rfl rfl ?_
    refine pm_R_get pm_M122 (pc_q := 13) (v := .ref 37) rfl rfl T.e16 (by decide) (T.lt (by decide)) rfl rfl ?_
    refine pm_R_lo pm_M122 (pc_q := 14) rfl rfl rfl ?_
    refine pm_R_new pm_M122 (pc_q := 17) (fs := [.null, .null, .null, .null, .null, .int 0, .int 0, .int 0, .int 0]) rfl rfl rfl rfl rfl ?_
    refine pm_R_op pm_M122 (pc_q := 18) (st_q := [.ref h.1, .ref h.1, .int a0, .ref 37]) rfl rfl rfl ?_
    refine pm_R_ci pm_M122 (pc_q := 21) (a := h.1) (ra := []) (rest := [.ref h.1, .int a0, .ref 37]) (ls_q := [.ref h.1]) rfl rfl (Or.inr rfl) pm_M123 rfl rfl (Nat.le_of_ble_eq_true rfl) rfl rfl ?_
    have h72 := T.1
    refine cl_x123 (d := d) (t := h.1) (by simp [pm_push, va_up]) (by omega) (Nat.lt_succ_self _) (fun h2 e1 e2 t2 c1 c2 c3 c4 oo => ?_)
    have e1' : h2.1 = h.1 + 5 := e1
    have e2' : h2.2.1 = h.2.1 + 24466 := e2.trans (by show h.2.1 + 9 + 24457 = _; omega)
    have hh : ∀ a, a < h.1 → h2.2.2 a = h.2.2 a := fun a ha => by
      rw [oo a (by omega) (by show a < h.1 + 1; omega)]
      have : a ≠ h.1 := by omega
      simp [pm_push, va_up, this]
    have G2 : cl_G (cl_gr ck h.1 5 24) E := cl_gr_G G T.2.2.2.2.2.2.2.2.2.2.1 h72 (by unfold cl_gp; omega) (fun _ _ => rfl) (fun z => absurd z (by decide)) (fun z => absurd z (by decide)) (fun z => absurd z (by decide)) (fun z => absurd z (by decide))
    have T2 : cl_T (cl_gr ck h.1 5 24) E m o h2 := T.grow G (by unfold cl_gp; omega) (fun _ _ => rfl) hh (by omega) (fun z => absurd z (by decide)) (fun z => absurd z (by decide)) (fun z => absurd z (by decide)) (fun _ => ⟨⟨0, -1, -1, -1, ⟨by decide, by decide⟩, ⟨by decide, by decide⟩, t2⟩, ⟨_, c1⟩, ⟨_, c2⟩, ⟨_, c3⟩, ⟨_, c4⟩⟩)
    have lt : ∀ b, b < h.1 → cl_gr ck h.1 5 24 b = ck b := fun b hb => cl_gr_lt hb
    have old := cl_gr_old (n := 5) (k0 := 24) T.2.2.2.2.2.2.2.2.2.2.1
    have kc : cl_gr ck h.1 5 24 h.1 = 24 := cl_gr_new0 (by decide)
    show pm_R _ 122 21 [.ref 16, .int a0] [.ref h.1, .int a0, .ref 37] _ _
    refine pm_R_aast pm_M122 (pc_q := 22) rfl ((hh 37 (by omega)).trans es) t2 rfl (by decide) (T2.lt (by decide)) (by omega) (by omega) hj rfl ?_
    have T3 := T2.put37 G2 (f := va_up fs a0.toNatClampNeg (some h.1)) (fun i b hb => by
      by_cases e : i = a0.toNatClampNeg
      · rw [e] at hb; rw [show va_up fs a0.toNatClampNeg (some h.1) a0.toNatClampNeg = some h.1 by simp [va_up]] at hb; cases hb; exact kc
      · rw [show va_up fs a0.toNatClampNeg (some h.1) i = fs i by simp [va_up, e]] at hb
        have := hO i b hb
        rw [old b (by rw [this]; decide)]; exact this)
    have F3 : cl_F ck [37] 5 24466 h (pm_set h2 37 (.inl (9, 2, .inr (.inr (.inr (.inr (va_up fs a0.toNatClampNeg (some h.1)))))))) := by
      refine ⟨h72, by show h.1 ≤ h2.1; omega, by show h2.1 ≤ _; omega, by show h2.2.1 ≤ _; omega, fun a b1 b2 b3 => ?_⟩
      have : a ≠ 37 := fun e => b2 (by rw [e]; exact List.mem_singleton.mpr rfl)
      rw [cl_set_ne this]; exact hh a b1
    refine cl_c122_t (d := d) (lo := lo) (c := h.1) G2 T3 hj (by rw [cl_set_ne (by decide), hh 19 (by omega)]; exact el) hl cl_set_eq (by simp [va_up]) (by rw [old lo (by rw [hkl]; decide)]; exact hkl) kc (fun h_q T' F' N' NT' => ?_)
    refine K h.1 _ h_q lt G2 T' (F3.transG F' lt (by decide) (by decide) (by decide)) kc N' (fun c hc z => NT' c (by rw [old c (by rw [hc]; decide)]; exact hc) (z.lift old ?_)) (fun a ha hn => ?_)
    · have hc72 := G.1 c (by rw [hc]; decide)
      rw [cl_set_ne (by omega), hh c (T.al hc (by decide))]
    · rw [F'.cell G2 List.not_mem_nil ha rfl, cl_set_ne hn, hh a (by omega)]
  · refine pm_R_aald pm_M122 (pc_q := 6) (v := .ref c) rfl es (by decide) (by decide) (by decide) (T.lt (by decide)) hj (by rw [hs]; rfl) rfl ?_
    refine pm_R_br pm_M122 (pc_q := 22) rfl rfl ?_
    refine cl_c122_t (d := d) (lo := lo) (c := c) G T hj el hl es hs hkl (hO _ _ hs) (fun h_q T' F' N' NT' => ?_)
    exact K c ck h_q (fun _ _ => rfl) G T' ((cl_F.refl (ck := ck) (A := [37]) (n := 5) (s := 24466) T.1).trans F' (by decide) (by decide) (by decide)) (hO _ _ hs) N' NT' (fun a ha _ => F'.cell G List.not_mem_nil ha rfl)
end
end
