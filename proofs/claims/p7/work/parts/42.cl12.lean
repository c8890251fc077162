set_option maxRecDepth 100000 in
set_option maxHeartbeats 4000000 in
/-- SilentTable.can -/
theorem cl_c80 {d : Nat} {ck : cl_K} {E : Nat → pm_E} {m : Nat → Int32} {o : Nat → Option Nat} {h : pm_H} {Q : Option Value → pm_H → Prop} {a0 : Int32} {a1 : Int32} {a2 : Int32} {a3 : Int32} (G : cl_G ck E) (T : cl_T ck E m o h)  (K : ∀ (r : Int32) (m_q : Nat → Int32) (o_q : Nat → Option Nat) (h_q : pm_H), cl_T ck E m_q o_q h_q → cl_F ck [33, 34] 0 0 h h_q → rf_W [] m m_q → Q (some (.int r)) h_q) : pm_R (d + 4) 80 0 [.ref 16, .int a0, .int a1, .int a2, .int a3, pm_no, pm_no, pm_no, pm_no] [] h Q := by
  refine pm_R_lo pm_M80 (pc_q := 1) rfl rfl rfl ?_
  refine pm_R_lo pm_M80 (pc_q := 2) rfl rfl rfl ?_
  refine pm_R_cv pm_M80 (pc_q := 5) (a := 16) (ra := [.int a0]) (rest := []) (ls_q := [.ref 16, .int a0]) rfl rfl (Or.inl rfl) pm_M62 T.e16 rfl (by decide) (T.lt (by decide)) rfl rfl (Nat.le_of_ble_eq_true rfl) rfl rfl ?_
  refine pm_R_lo pm_M62 (pc_q := 1) rfl rfl rfl ?_
  refine pm_R_ifc pm_M62 (t := 17) (pc_q := 4) rfl rfl rfl (fun c1 => ?_) (fun c1 => ?_)
  · have B2 : sf_B (-2147483648) (-1) a0 := sf_ltL c1 (sf_any a0) sf_k0
    refine pm_R_op pm_M62 (pc_q := 18) (st_q := [.null]) rfl rfl rfl ?_
    refine pm_R_br pm_M62 (pc_q := 30) rfl rfl ?_
    refine pm_R_ret pm_M62 (r := some (.null)) rfl rfl ?_
    show pm_R _ 80 5 [.ref 16, .int a0, .int a1, .int a2, .int a3, pm_no, pm_no, pm_no, pm_no] [.null] _ _
    refine pm_R_lo pm_M80 (pc_q := 7) (ls_q := [.ref 16, .int a0, .int a1, .int a2, .int a3, .null, pm_no, pm_no, pm_no]) (st_q := []) rfl rfl rfl ?_
    refine pm_R_lo pm_M80 (pc_q := 8) rfl rfl rfl ?_
    refine pm_R_lo pm_M80 (pc_q := 9) rfl rfl rfl ?_
    refine pm_R_cv pm_M80 (pc_q := 12) (a := 16) (ra := [.int a1]) (rest := []) (ls_q := [.ref 16, .int a1]) rfl rfl (Or.inl rfl) pm_M66 T.e16 rfl (by decide) (T.lt (by decide)) rfl rfl (Nat.le_of_ble_eq_true rfl) rfl rfl ?_
    refine pm_R_lo pm_M66 (pc_q := 1) rfl rfl rfl ?_
    refine pm_R_ifc pm_M66 (t := 17) (pc_q := 4) rfl rfl rfl (fun c3 => ?_) (fun c3 => ?_)
    · have B4 : sf_B (-2147483648) (-1) a1 := sf_ltL c3 (sf_any a1) sf_k0
      refine pm_R_op pm_M66 (pc_q := 18) (st_q := [.null]) rfl rfl rfl ?_
      refine pm_R_br pm_M66 (pc_q := 30) rfl rfl ?_
      refine pm_R_ret pm_M66 (r := some (.null)) rfl rfl ?_
      show pm_R _ 80 12 [.ref 16, .int a0, .int a1, .int a2, .int a3, .null, pm_no, pm_no, pm_no] [.null] _ _
      refine pm_R_lo pm_M80 (pc_q := 14) (ls_q := [.ref 16, .int a0, .int a1, .int a2, .int a3, .null, .null, pm_no, pm_no]) (st_q := []) rfl rfl rfl ?_
      refine pm_R_lo pm_M80 (pc_q := 16) rfl rfl rfl ?_
      refine pm_R_br pm_M80 (pc_q := 35) rfl rfl ?_
      refine pm_R_op pm_M80 (pc_q := 36) (st_q := [.int (-1)]) rfl rfl rfl ?_
      exact pm_R_ret pm_M80 (r := some (.int (-1))) rfl rfl (K (-1) m o h T (cl_F.refl (ck := ck) (A := [33, 34]) (n := 0) (s := 0) T.1) (rf_W.refl [] m))
    · have B5 : sf_B 0 2147483647 a1 := sf_leR (Int32.not_lt.mp c3) sf_k0 (sf_any a1)
      refine pm_R_lo pm_M66 (pc_q := 5) rfl rfl rfl ?_
      refine pm_R_lo pm_M66 (pc_q := 6) rfl rfl rfl ?_
      refine pm_R_get pm_M66 (pc_q := 9) (v := .ref 17) rfl rfl T.e16 (by decide) (T.lt (by decide)) rfl rfl ?_
      refine pm_R_get pm_M66 (pc_q := 12) (v := .ref 23) rfl rfl T.e17 (by decide) (T.lt (by decide)) rfl rfl ?_
      refine pm_R_op pm_M66 (pc_q := 13) (st_q := [.int 1, .ref 23, .int a1]) rfl rfl rfl ?_
      obtain ⟨f9, e10, b11⟩ := T.C 23 (by decide) (by decide)
      obtain ⟨z6, ez7⟩ : ∃ y, f9 (Int32.toNatClampNeg 1) = y := ⟨_, rfl⟩
      have B8 : sf_B 0 3 z6 := ez7 ▸ (b11 1)
      refine pm_R_iald pm_M66 (pc_q := 14) (v := z6) rfl e10 (T.lt (by decide)) rfl ez7 rfl ?_
      refine pm_R_icmp pm_M66 (t := 21) (pc_q := 17) rfl rfl rfl (fun c12 => ?_) (fun c12 => ?_)
      · have B13 : sf_B 0 2 a1 := sf_ltL c12 B5 B8
        have B14 : sf_B 1 3 z6 := sf_ltR c12 B5 B8
        refine pm_R_lo pm_M66 (pc_q := 22) rfl rfl rfl ?_
        refine pm_R_get pm_M66 (pc_q := 25) (v := .ref 17) rfl rfl T.e16 (by decide) (T.lt (by decide)) rfl rfl ?_
        refine pm_R_get pm_M66 (pc_q := 28) (v := .ref 20) rfl rfl T.e17 (by decide) (T.lt (by decide)) rfl rfl ?_
        refine pm_R_lo pm_M66 (pc_q := 29) rfl rfl rfl ?_
        obtain ⟨f15, e16, b17⟩ := T.C 20 (by decide) (by decide)
        obtain ⟨l18, hx19⟩ := cl_there1 T e10 e16 ez7 c12 B13 (by decide)
        have hk20 := b17 _ _ hx19
        refine pm_R_aald pm_M66 (pc_q := 30) (v := .ref l18) rfl e16 (by decide) (by decide) (by decide) (T.lt (by decide)) (sf_in B13 (by decide) (by decide)) (by rw [hx19]; rfl) rfl ?_
        refine pm_R_ret pm_M66 (r := some (.ref l18)) rfl rfl ?_
        show pm_R _ 80 12 [.ref 16, .int a0, .int a1, .int a2, .int a3, .null, pm_no, pm_no, pm_no] [.ref l18] _ _
        refine pm_R_lo pm_M80 (pc_q := 14) (ls_q := [.ref 16, .int a0, .int a1, .int a2, .int a3, .null, .ref l18, pm_no, pm_no]) (st_q := []) rfl rfl rfl ?_
        refine pm_R_lo pm_M80 (pc_q := 16) rfl rfl rfl ?_
        refine pm_R_br pm_M80 (pc_q := 35) rfl rfl ?_
        refine pm_R_op pm_M80 (pc_q := 36) (st_q := [.int (-1)]) rfl rfl rfl ?_
        exact pm_R_ret pm_M80 (r := some (.int (-1))) rfl rfl (K (-1) m o h T (cl_F.refl (ck := ck) (A := [33, 34]) (n := 0) (s := 0) T.1) (rf_W.refl [] m))
      · skip
        refine pm_R_op pm_M66 (pc_q := 18) (st_q := [.null]) rfl rfl rfl ?_
        refine pm_R_br pm_M66 (pc_q := 30) rfl rfl ?_
        refine pm_R_ret pm_M66 (r := some (.null)) rfl rfl ?_
        show pm_R _ 80 12 [.ref 16, .int a0, .int a1, .int a2, .int a3, .null, pm_no, pm_no, pm_no] [.null] _ _
        refine pm_R_lo pm_M80 (pc_q := 14) (ls_q := [.ref 16, .int a0, .int a1, .int a2, .int a3, .null, .null, pm_no, pm_no]) (st_q := []) rfl rfl rfl ?_
        refine pm_R_lo pm_M80 (pc_q := 16) rfl rfl rfl ?_
        refine pm_R_br pm_M80 (pc_q := 35) rfl rfl ?_
        refine pm_R_op pm_M80 (pc_q := 36) (st_q := [.int (-1)]) rfl rfl rfl ?_
        exact pm_R_ret pm_M80 (r := some (.int (-1))) rfl rfl (K (-1) m o h T (cl_F.refl (ck := ck) (A := [33, 34]) (n := 0) (s := 0) T.1) (rf_W.refl [] m))
  · have B21 : sf_B 0 2147483647 a0 := sf_leR (Int32.not_lt.mp c1) sf_k0 (sf_any a0)
    refine pm_R_lo pm_M62 (pc_q := 5) rfl rfl rfl ?_
    refine pm_R_lo pm_M62 (pc_q := 6) rfl rfl rfl ?_
    refine pm_R_get pm_M62 (pc_q := 9) (v := .ref 17) rfl rfl T.e16 (by decide) (T.lt (by decide)) rfl rfl ?_
    refine pm_R_get pm_M62 (pc_q := 12) (v := .ref 23) rfl rfl T.e17 (by decide) (T.lt (by decide)) rfl rfl ?_
    refine pm_R_op pm_M62 (pc_q := 13) (st_q := [.int 0, .ref 23, .int a0]) rfl rfl rfl ?_
    obtain ⟨f25, e26, b27⟩ := T.C 23 (by decide) (by decide)
    obtain ⟨z22, ez23⟩ : ∃ y, f25 (Int32.toNatClampNeg 0) = y := ⟨_, rfl⟩
    have B24 : sf_B 0 2 z22 := ez23 ▸ (b27 0)
    refine pm_R_iald pm_M62 (pc_q := 14) (v := z22) rfl e26 (T.lt (by decide)) rfl ez23 rfl ?_
    refine pm_R_icmp pm_M62 (t := 21) (pc_q := 17) rfl rfl rfl (fun c28 => ?_) (fun c28 => ?_)
    · have B29 : sf_B 0 1 a0 := sf_ltL c28 B21 B24
      have B30 : sf_B 1 2 z22 := sf_ltR c28 B21 B24
      refine pm_R_lo pm_M62 (pc_q := 22) rfl rfl rfl ?_
      refine pm_R_get pm_M62 (pc_q := 25) (v := .ref 17) rfl rfl T.e16 (by decide) (T.lt (by decide)) rfl rfl ?_
      refine pm_R_get pm_M62 (pc_q := 28) (v := .ref 19) rfl rfl T.e17 (by decide) (T.lt (by decide)) rfl rfl ?_
      refine pm_R_lo pm_M62 (pc_q := 29) rfl rfl rfl ?_
      obtain ⟨f31, e32, b33⟩ := T.C 19 (by decide) (by decide)
      obtain ⟨l34, hx35⟩ := cl_there0 T e26 e32 ez23 c28 B29 (by decide)
      have hk36 := b33 _ _ hx35
      refine pm_R_aald pm_M62 (pc_q := 30) (v := .ref l34) rfl e32 (by decide) (by decide) (by decide) (T.lt (by decide)) (sf_in B29 (by decide) (by decide)) (by rw [hx35]; rfl) rfl ?_
      refine pm_R_ret pm_M62 (r := some (.ref l34)) rfl rfl ?_
      show pm_R _ 80 5 [.ref 16, .int a0, .int a1, .int a2, .int a3, pm_no, pm_no, pm_no, pm_no] [.ref l34] _ _
      refine pm_R_lo pm_M80 (pc_q := 7) (ls_q := [.ref 16, .int a0, .int a1, .int a2, .int a3, .ref l34, pm_no, pm_no, pm_no]) (st_q := []) rfl rfl rfl ?_
      refine pm_R_lo pm_M80 (pc_q := 8) rfl rfl rfl ?_
      refine pm_R_lo pm_M80 (pc_q := 9) rfl rfl rfl ?_
      refine pm_R_cv pm_M80 (pc_q := 12) (a := 16) (ra := [.int a1]) (rest := []) (ls_q := [.ref 16, .int a1]) rfl rfl (Or.inl rfl) pm_M66 T.e16 rfl (by decide) (T.lt (by decide)) rfl rfl (Nat.le_of_ble_eq_true rfl) rfl rfl ?_
      refine pm_R_lo pm_M66 (pc_q := 1) rfl rfl rfl ?_
      refine pm_R_ifc pm_M66 (t := 17) (pc_q := 4) rfl rfl rfl (fun c37 => ?_) (fun c37 => ?_)
      · have B38 : sf_B (-2147483648) (-1) a1 := sf_ltL c37 (sf_any a1) sf_k0
        refine pm_R_op pm_M66 (pc_q := 18) (st_q := [.null]) rfl rfl rfl ?_
        refine pm_R_br pm_M66 (pc_q := 30) rfl rfl ?_
        refine pm_R_ret pm_M66 (r := some (.null)) rfl rfl ?_
        show pm_R _ 80 12 [.ref 16, .int a0, .int a1, .int a2, .int a3, .ref l34, pm_no, pm_no, pm_no] [.null] _ _
        refine pm_R_lo pm_M80 (pc_q := 14) (ls_q := [.ref 16, .int a0, .int a1, .int a2, .int a3, .ref l34, .null, pm_no, pm_no]) (st_q := []) rfl rfl rfl ?_
        refine pm_R_lo pm_M80 (pc_q := 16) rfl rfl rfl ?_
        refine pm_R_br pm_M80 (pc_q := 19) rfl rfl ?_
        refine pm_R_lo pm_M80 (pc_q := 21) rfl rfl rfl ?_
        refine pm_R_br pm_M80 (pc_q := 35) rfl rfl ?_
        refine pm_R_op pm_M80 (pc_q := 36) (st_q := [.int (-1)]) rfl rfl rfl ?_
        exact pm_R_ret pm_M80 (r := some (.int (-1))) rfl rfl (K (-1) m o h T (cl_F.refl (ck := ck) (A := [33, 34]) (n := 0) (s := 0) T.1) (rf_W.refl [] m))
      · have B39 : sf_B 0 2147483647 a1 := sf_leR (Int32.not_lt.mp c37) sf_k0 (sf_any a1)
        refine pm_R_lo pm_M66 (pc_q := 5) rfl rfl rfl ?_
        refine pm_R_lo pm_M66 (pc_q := 6) rfl rfl rfl ?_
        refine pm_R_get pm_M66 (pc_q := 9) (v := .ref 17) rfl rfl T.e16 (by decide) (T.lt (by decide)) rfl rfl ?_
        refine pm_R_get pm_M66 (pc_q := 12) (v := .ref 23) rfl rfl T.e17 (by decide) (T.lt (by decide)) rfl rfl ?_
        refine pm_R_op pm_M66 (pc_q := 13) (st_q := [.int 1, .ref 23, .int a1]) rfl rfl rfl ?_
        obtain ⟨z40, ez41⟩ : ∃ y, f25 (Int32.toNatClampNeg 1) = y := ⟨_, rfl⟩
        have B42 : sf_B 0 3 z40 := ez41 ▸ (b27 1)
        refine pm_R_iald pm_M66 (pc_q := 14) (v := z40) rfl e26 (T.lt (by decide)) rfl ez41 rfl ?_
        refine pm_R_icmp pm_M66 (t := 21) (pc_q := 17) rfl rfl rfl (fun c43 => ?_) (fun c43 => ?_)
        · have B44 : sf_B 0 2 a1 := sf_ltL c43 B39 B42
          have B45 : sf_B 1 3 z40 := sf_ltR c43 B39 B42
          refine pm_R_lo pm_M66 (pc_q := 22) rfl rfl rfl ?_
          refine pm_R_get pm_M66 (pc_q := 25) (v := .ref 17) rfl rfl T.e16 (by decide) (T.lt (by decide)) rfl rfl ?_
          refine pm_R_get pm_M66 (pc_q := 28) (v := .ref 20) rfl rfl T.e17 (by decide) (T.lt (by decide)) rfl rfl ?_
          refine pm_R_lo pm_M66 (pc_q := 29) rfl rfl rfl ?_
          obtain ⟨f46, e47, b48⟩ := T.C 20 (by decide) (by decide)
          obtain ⟨l49, hx50⟩ := cl_there1 T e26 e47 ez41 c43 B44 (by decide)
          have hk51 := b48 _ _ hx50
          refine pm_R_aald pm_M66 (pc_q := 30) (v := .ref l49) rfl e47 (by decide) (by decide) (by decide) (T.lt (by decide)) (sf_in B44 (by decide) (by decide)) (by rw [hx50]; rfl) rfl ?_
          refine pm_R_ret pm_M66 (r := some (.ref l49)) rfl rfl ?_
          show pm_R _ 80 12 [.ref 16, .int a0, .int a1, .int a2, .int a3, .ref l34, pm_no, pm_no, pm_no] [.ref l49] _ _
          refine pm_R_lo pm_M80 (pc_q := 14) (ls_q := [.ref 16, .int a0, .int a1, .int a2, .int a3, .ref l34, .ref l49, pm_no, pm_no]) (st_q := []) rfl rfl rfl ?_
          refine pm_R_lo pm_M80 (pc_q := 16) rfl rfl rfl ?_
          refine pm_R_br pm_M80 (pc_q := 19) rfl rfl ?_
          refine pm_R_lo pm_M80 (pc_q := 21) rfl rfl rfl ?_
          refine pm_R_br pm_M80 (pc_q := 24) rfl rfl ?_
          refine pm_R_lo pm_M80 (pc_q := 26) rfl rfl rfl ?_
          refine pm_R_lo pm_M80 (pc_q := 27) rfl rfl rfl ?_
          refine pm_R_lo pm_M80 (pc_q := 29) rfl rfl rfl ?_
          obtain ⟨n52, f53, h54, h55, eE56, eE57, b58⟩ := (G.2.2.1 l49 hk51).2
          have kq59 := (G.2.2.1 l49 hk51).1
          refine pm_R_cv pm_M80 (pc_q := 32) (a := l49) (ra := [.int a3, .int a2]) (rest := []) (ls_q := [.ref l49, .int a2, .int a3]) rfl rfl (Or.inl rfl) pm_M69 (T.im hk51 (by decide) (by decide) eE56) rfl (G.ge hk51 (by decide)) (T.al hk51 (by decide)) rfl rfl (Nat.le_of_ble_eq_true rfl) rfl rfl ?_
          refine pm_R_lo pm_M69 (pc_q := 1) rfl rfl rfl ?_
          refine pm_R_ifc pm_M69 (t := 21) (pc_q := 4) rfl rfl rfl (fun c60 => ?_) (fun c60 => ?_)
          · have B61 : sf_B (-2147483648) (-1) a2 := sf_ltL c60 (sf_any a2) sf_k0
            refine pm_R_op pm_M69 (pc_q := 22) (st_q := [.int 0]) rfl rfl rfl ?_
            refine pm_R_ret pm_M69 (r := some (.int 0)) rfl rfl ?_
            show pm_R _ 80 32 [.ref 16, .int a0, .int a1, .int a2, .int a3, .ref l34, .ref l49, pm_no, pm_no] [.int 0] _ _
            refine pm_R_br pm_M80 (pc_q := 35) (st_q := []) rfl rfl ?_
            refine pm_R_op pm_M80 (pc_q := 36) (st_q := [.int (-1)]) rfl rfl rfl ?_
            exact pm_R_ret pm_M80 (r := some (.int (-1))) rfl rfl (K (-1) m o h T (cl_F.refl (ck := ck) (A := [33, 34]) (n := 0) (s := 0) T.1) (rf_W.refl [] m))
          · have B62 : sf_B 0 2147483647 a2 := sf_leR (Int32.not_lt.mp c60) sf_k0 (sf_any a2)
            refine pm_R_lo pm_M69 (pc_q := 5) rfl rfl rfl ?_
            refine pm_R_lo pm_M69 (pc_q := 6) rfl rfl rfl ?_
            refine pm_R_icmp pm_M69 (t := 21) (pc_q := 9) rfl rfl rfl (fun c63 => ?_) (fun c63 => ?_)
            · have B64 : sf_B (-2147483648) 2147483646 a3 := sf_ltL c63 (sf_any a3) B62
              refine pm_R_op pm_M69 (pc_q := 22) (st_q := [.int 0]) rfl rfl rfl ?_
              refine pm_R_ret pm_M69 (r := some (.int 0)) rfl rfl ?_
              show pm_R _ 80 32 [.ref 16, .int a0, .int a1, .int a2, .int a3, .ref l34, .ref l49, pm_no, pm_no] [.int 0] _ _
              refine pm_R_br pm_M80 (pc_q := 35) (st_q := []) rfl rfl ?_
              refine pm_R_op pm_M80 (pc_q := 36) (st_q := [.int (-1)]) rfl rfl rfl ?_
              exact pm_R_ret pm_M80 (r := some (.int (-1))) rfl rfl (K (-1) m o h T (cl_F.refl (ck := ck) (A := [33, 34]) (n := 0) (s := 0) T.1) (rf_W.refl [] m))
            · have B65 : sf_B 0 2147483647 a3 := sf_leR (Int32.not_lt.mp c63) B62 (sf_any a3)
              refine pm_R_lo pm_M69 (pc_q := 10) rfl rfl rfl ?_
              refine pm_R_lo pm_M69 (pc_q := 11) rfl rfl rfl ?_
              refine pm_R_get pm_M69 (pc_q := 14) (v := .int (Int32.ofNat n52)) rfl rfl (T.im hk51 (by decide) (by decide) eE56) (G.ge hk51 (by decide)) (T.al hk51 (by decide)) rfl rfl ?_
              refine pm_R_icmp pm_M69 (t := 21) (pc_q := 17) rfl rfl rfl (fun c66 => ?_) (fun c66 => ?_)
              · have B67 : sf_B 1 2147483647 a3 := sf_leR c66 (sf_ofB1 h55 h54 (by decide)) B65
                refine pm_R_op pm_M69 (pc_q := 22) (st_q := [.int 0]) rfl rfl rfl ?_
                refine pm_R_ret pm_M69 (r := some (.int 0)) rfl rfl ?_
                show pm_R _ 80 32 [.ref 16, .int a0, .int a1, .int a2, .int a3, .ref l34, .ref l49, pm_no, pm_no] [.int 0] _ _
                refine pm_R_br pm_M80 (pc_q := 35) (st_q := []) rfl rfl ?_
                refine pm_R_op pm_M80 (pc_q := 36) (st_q := [.int (-1)]) rfl rfl rfl ?_
                exact pm_R_ret pm_M80 (r := some (.int (-1))) rfl rfl (K (-1) m o h T (cl_F.refl (ck := ck) (A := [33, 34]) (n := 0) (s := 0) T.1) (rf_W.refl [] m))
              · have B68 : sf_B 0 11 a3 := sf_ltL (Int32.not_le.mp c66) B65 (sf_ofB1 h55 h54 (by decide))
                have B69 : sf_B 0 11 a2 := sf_leT (Int32.le_iff_toInt_le.mp (Int32.not_lt.mp c63)) B62 B68
                refine pm_R_op pm_M69 (pc_q := 18) (st_q := [.int 1]) rfl rfl rfl ?_
                refine pm_R_br pm_M69 (pc_q := 22) rfl rfl ?_
                refine pm_R_ret pm_M69 (r := some (.int 1)) rfl rfl ?_
                show pm_R _ 80 32 [.ref 16, .int a0, .int a1, .int a2, .int a3, .ref l34, .ref l49, pm_no, pm_no] [.int 1] _ _
                refine pm_R_br pm_M80 (pc_q := 37) (st_q := []) rfl rfl ?_
                refine pm_R_lo pm_M80 (pc_q := 38) rfl rfl rfl ?_
                refine pm_R_get pm_M80 (pc_q := 41) (v := .ref 33) rfl rfl T.e16 (by decide) (T.lt (by decide)) rfl rfl ?_
                refine pm_R_lo pm_M80 (pc_q := 43) rfl rfl rfl ?_
                refine pm_R_lo pm_M80 (pc_q := 45) rfl rfl rfl ?_
                refine pm_R_cv pm_M80 (pc_q := 48) (a := 33) (ra := [.ref l49, .ref l34]) (rest := []) (ls_q := [.ref 33, .ref l34, .ref l49, pm_no, pm_no]) rfl rfl (Or.inl rfl) pm_M70 T.e33 rfl (by decide) (T.lt (by decide)) rfl rfl (Nat.le_of_ble_eq_true rfl) rfl rfl ?_
                refine cl_c70 (d := d + 0) G T hk36 hk51 (fun m72 o77 h73 T74 F75 W76 X78 X79 => ?_)
                have F80 := (cl_F.refl (ck := ck) (A := [33, 34]) (n := 0) (s := 0) T.1).trans (N := 0) (S := 0) F75 (by decide) (by decide) (by decide)
                have W81 : rf_W [] m m72 := (rf_W.refl [] m).trans W76 (by decide)
                show pm_R _ 80 48 [.ref 16, .int a0, .int a1, .int a2, .int a3, .ref l34, .ref l49, pm_no, pm_no] [] _ _
                refine pm_R_op pm_M80 (pc_q := 49) (st_q := [.int 0]) rfl rfl rfl ?_
                refine pm_R_lo pm_M80 (pc_q := 51) (ls_q := [.ref 16, .int a0, .int a1, .int a2, .int a3, .ref l34, .ref l49, .int 0, pm_no]) (st_q := []) rfl rfl rfl ?_
                refine pm_R_op pm_M80 (pc_q := 52) (st_q := [.int 0]) rfl rfl rfl ?_
                refine pm_R_lo pm_M80 (pc_q := 54) (ls_q := [.ref 16, .int a0, .int a1, .int a2, .int a3, .ref l34, .ref l49, .int 0, .int 0]) (st_q := []) rfl rfl rfl ?_
                have L_321 : ∀ (N : Nat) (x7_321 : Int32) (x8_321 : Int32), sf_B (-2147483648) 2147483647 x7_321 → sf_B 0 6 x8_321 → (6 - x8_321.toInt).toNat = N → pm_R (d + 4) 80 54 [.ref 16, .int a0, .int a1, .int a2, .int a3, .ref l34, .ref l49, .int x7_321, .int x8_321] [] h73 Q := by
                  intro N
                  induction N using Nat.strongRecOn with
                  | ind N ih_321 =>
                    intro x7_321 x8_321 Bx7_321 Bx8_321 hN_321
                    refine pm_R_lo pm_M80 (pc_q := 56) rfl rfl rfl ?_
                    refine pm_R_op pm_M80 (pc_q := 58) (st_q := [.int 6, .int x8_321]) rfl rfl rfl ?_
                    refine pm_R_icmp pm_M80 (t := 101) (pc_q := 61) rfl rfl rfl (fun c322 => ?_) (fun c322 => ?_)
                    · have B323 : sf_B 6 6 x8_321 := sf_leR c322 sf_k6 Bx8_321
                      refine pm_R_lo pm_M80 (pc_q := 103) rfl rfl rfl ?_
                      exact pm_R_ret pm_M80 (r := some (.int x7_321)) rfl (pm_ret_i _) (K x7_321 m72 o77 h73 T74 F80 W81)
                    · have B324 : sf_B 0 5 x8_321 := sf_ltL (Int32.not_le.mp c322) Bx8_321 sf_k6
                      refine pm_R_lo pm_M80 (pc_q := 62) rfl rfl rfl ?_
                      refine pm_R_get pm_M80 (pc_q := 65) (v := .ref 33) rfl rfl T74.e16 (by decide) (T74.lt (by decide)) rfl rfl ?_
                      refine pm_R_get pm_M80 (pc_q := 68) (v := .ref 34) rfl rfl T74.e33 (by decide) (T74.lt (by decide)) rfl rfl ?_
                      refine pm_R_lo pm_M80 (pc_q := 69) rfl rfl rfl ?_
                      refine pm_R_lo pm_M80 (pc_q := 71) rfl rfl rfl ?_
                      refine pm_R_cs pm_M80 (pc_q := 74) (ra := [.int a3, .int a2]) (rest := [.ref 34]) (ls_q := [.int a2, .int a3]) rfl rfl (Or.inl rfl) pm_M73 rfl rfl (Nat.le_of_ble_eq_true rfl) rfl rfl ?_
                      refine pm_R_lo pm_M73 (pc_q := 1) rfl rfl rfl ?_
                      refine pm_R_lo pm_M73 (pc_q := 2) rfl rfl rfl ?_
                      refine pm_R_op pm_M73 (pc_q := 3) (st_q := [.int 1, .int a3, .int a3]) rfl rfl rfl ?_
                      refine sf_R_iadd pm_M73 (pc_q := 4) rfl rfl B68 sf_k1 (by decide) (by decide) (fun z325 e326 B327 => ?_)
                      refine sf_R_imul pm_M73 (pc_q := 5) rfl rfl B68 B327 (by decide) (by decide) (by decide) (fun z328 e329 B330 => ?_)
                      refine pm_R_op pm_M73 (pc_q := 6) (st_q := [.int 2, .int z328]) rfl rfl rfl ?_
                      refine sf_R_idiv pm_M73 (pc_q := 7) rfl rfl B330 sf_k2 (by decide) (by decide) (fun z331 e332 B333 => ?_)
                      refine pm_R_lo pm_M73 (pc_q := 8) rfl rfl rfl ?_
                      refine sf_R_iadd pm_M73 (pc_q := 9) rfl rfl B333 B69 (by decide) (by decide) (fun z334 e335 B336 => ?_)
                      refine pm_R_ret pm_M73 (r := some (.int z334)) rfl (pm_ret_i _) ?_
                      show pm_R _ 80 74 [.ref 16, .int a0, .int a1, .int a2, .int a3, .ref l34, .ref l49, .int x7_321, .int x8_321] [.int z334, .ref 34] _ _
                      refine pm_R_op pm_M80 (pc_q := 76) (st_q := [.int 6, .int z334, .ref 34]) rfl rfl rfl ?_
                      refine sf_R_imul pm_M80 (pc_q := 77) rfl rfl B336 sf_k6 (by decide) (by decide) (by decide) (fun z337 e338 B339 => ?_)
                      refine pm_R_lo pm_M80 (pc_q := 79) rfl rfl rfl ?_
                      refine sf_R_iadd pm_M80 (pc_q := 80) rfl rfl B339 B324 (by decide) (by decide) (fun z340 e341 B342 => ?_)
                      obtain ⟨f346, e347⟩ := T74.C 34 (by decide) (by decide)
                      obtain ⟨z343, ez344⟩ : ∃ y, f346 (Int32.toNatClampNeg z340) = y := ⟨_, rfl⟩
                      refine pm_R_lald pm_M80 (pc_q := 81) (v := z343) rfl e347 (by decide) (T74.lt (by decide)) (sf_in B342 (by decide) (by decide)) ez344 rfl ?_
                      refine pm_R_op pm_M80 (pc_q := 82) (st_q := [.long 0, .long z343]) rfl rfl rfl ?_
                      refine sf_R_lcmp pm_M80 (pc_q := 83) rfl rfl (fun z349 e350 => ?_)
                      refine pm_R_ifc pm_M80 (t := 95) (pc_q := 86) rfl rfl rfl (fun c351 => ?_) (fun c351 => ?_)
                      · have B352 : sf_B 0 0 z349 := sf_eqL c351 sf_k0
                        have B353 : lf_B 0 0 z343 := lf_eqB e350 B352 (⟨by decide, by decide⟩ : lf_B 0 0 0)
                        refine sf_R_iinc pm_M80 (pc_q := 98) (ls_q := fun z => [.ref 16, .int a0, .int a1, .int a2, .int a3, .ref l34, .ref l49, .int x7_321, .int z]) rfl B324 rfl (by decide) (by decide) (by decide) (fun _ => rfl) rfl (fun z354 e355 B356 => ?_)
                        show pm_R _ 80 98 [.ref 16, .int a0, .int a1, .int a2, .int a3, .ref l34, .ref l49, .int x7_321, .int z354] [] _ _
                        refine pm_R_br pm_M80 (pc_q := 54) rfl rfl ?_
                        exact ih_321 _ (sf_up hN_321 e355 B324 (by decide) (by decide)) x7_321 z354 Bx7_321 (sf_weak B356 (by decide) (by decide)) rfl
                      · have k357 := sf_lneC e350 c351
                        refine pm_R_lo pm_M80 (pc_q := 88) rfl rfl rfl ?_
                        refine pm_R_op pm_M80 (pc_q := 89) (st_q := [.int 1, .int x7_321]) rfl rfl rfl ?_
                        refine pm_R_lo pm_M80 (pc_q := 91) rfl rfl rfl ?_
                        refine sf_R_iany pm_M80 (pc_q := 92) (st := [.int x7_321]) rfl rfl rfl (fun z361 => ?_)
                        refine sf_R_iany pm_M80 (pc_q := 93) (st := []) rfl rfl rfl (fun z365 => ?_)
                        refine pm_R_lo pm_M80 (pc_q := 95) (ls_q := [.ref 16, .int a0, .int a1, .int a2, .int a3, .ref l34, .ref l49, .int z365, .int x8_321]) (st_q := []) rfl rfl rfl ?_
                        refine sf_R_iinc pm_M80 (pc_q := 98) (ls_q := fun z => [.ref 16, .int a0, .int a1, .int a2, .int a3, .ref l34, .ref l49, .int z365, .int z]) rfl B324 rfl (by decide) (by decide) (by decide) (fun _ => rfl) rfl (fun z366 e367 B368 => ?_)
                        show pm_R _ 80 98 [.ref 16, .int a0, .int a1, .int a2, .int a3, .ref l34, .ref l49, .int z365, .int z366] [] _ _
                        refine pm_R_br pm_M80 (pc_q := 54) rfl rfl ?_
                        exact ih_321 _ (sf_up hN_321 e367 B324 (by decide) (by decide)) z365 z366 (sf_any z365) (sf_weak B368 (by decide) (by decide)) rfl
                exact L_321 _ 0 0 (sf_weak sf_k0 (by decide) (by decide)) (sf_weak sf_k0 (by decide) (by decide)) rfl
        · skip
          refine pm_R_op pm_M66 (pc_q := 18) (st_q := [.null]) rfl rfl rfl ?_
          refine pm_R_br pm_M66 (pc_q := 30) rfl rfl ?_
          refine pm_R_ret pm_M66 (r := some (.null)) rfl rfl ?_
          show pm_R _ 80 12 [.ref 16, .int a0, .int a1, .int a2, .int a3, .ref l34, pm_no, pm_no, pm_no] [.null] _ _
          refine pm_R_lo pm_M80 (pc_q := 14) (ls_q := [.ref 16, .int a0, .int a1, .int a2, .int a3, .ref l34, .null, pm_no, pm_no]) (st_q := []) rfl rfl rfl ?_
          refine pm_R_lo pm_M80 (pc_q := 16) rfl rfl rfl ?_
          refine pm_R_br pm_M80 (pc_q := 19) rfl rfl ?_
          refine pm_R_lo pm_M80 (pc_q := 21) rfl rfl rfl ?_
          refine pm_R_br pm_M80 (pc_q := 35) rfl rfl ?_
          refine pm_R_op pm_M80 (pc_q := 36) (st_q := [.int (-1)]) rfl rfl rfl ?_
          exact pm_R_ret pm_M80 (r := some (.int (-1))) rfl rfl (K (-1) m o h T (cl_F.refl (ck := ck) (A := [33, 34]) (n := 0) (s := 0) T.1) (rf_W.refl [] m))
    · skip
      refine pm_R_op pm_M62 (pc_q := 18) (st_q := [.null]) rfl rfl rfl ?_
      refine pm_R_br pm_M62 (pc_q := 30) rfl rfl ?_
      refine pm_R_ret pm_M62 (r := some (.null)) rfl rfl ?_
      show pm_R _ 80 5 [.ref 16, .int a0, .int a1, .int a2, .int a3, pm_no, pm_no, pm_no, pm_no] [.null] _ _
      refine pm_R_lo pm_M80 (pc_q := 7) (ls_q := [.ref 16, .int a0, .int a1, .int a2, .int a3, .null, pm_no, pm_no, pm_no]) (st_q := []) rfl rfl rfl ?_
      refine pm_R_lo pm_M80 (pc_q := 8) rfl rfl rfl ?_
      refine pm_R_lo pm_M80 (pc_q := 9) rfl rfl rfl ?_
      refine pm_R_cv pm_M80 (pc_q := 12) (a := 16) (ra := [.int a1]) (rest := []) (ls_q := [.ref 16, .int a1]) rfl rfl (Or.inl rfl) pm_M66 T.e16 rfl (by decide) (T.lt (by decide)) rfl rfl (Nat.le_of_ble_eq_true rfl) rfl rfl ?_
      refine pm_R_lo pm_M66 (pc_q := 1) rfl rfl rfl ?_
      refine pm_R_ifc pm_M66 (t := 17) (pc_q := 4) rfl rfl rfl (fun c369 => ?_) (fun c369 => ?_)
      · have B370 : sf_B (-2147483648) (-1) a1 := sf_ltL c369 (sf_any a1) sf_k0
        refine pm_R_op pm_M66 (pc_q := 18) (st_q := [.null]) rfl rfl rfl ?_
        refine pm_R_br pm_M66 (pc_q := 30) rfl rfl ?_
        refine pm_R_ret pm_M66 (r := some (.null)) rfl rfl ?_
        show pm_R _ 80 12 [.ref 16, .int a0, .int a1, .int a2, .int a3, .null, pm_no, pm_no, pm_no] [.null] _ _
        refine pm_R_lo pm_M80 (pc_q := 14) (ls_q := [.ref 16, .int a0, .int a1, .int a2, .int a3, .null, .null, pm_no, pm_no]) (st_q := []) rfl rfl rfl ?_
        refine pm_R_lo pm_M80 (pc_q := 16) rfl rfl rfl ?_
        refine pm_R_br pm_M80 (pc_q := 35) rfl rfl ?_
        refine pm_R_op pm_M80 (pc_q := 36) (st_q := [.int (-1)]) rfl rfl rfl ?_
        exact pm_R_ret pm_M80 (r := some (.int (-1))) rfl rfl (K (-1) m o h T (cl_F.refl (ck := ck) (A := [33, 34]) (n := 0) (s := 0) T.1) (rf_W.refl [] m))
      · have B371 : sf_B 0 2147483647 a1 := sf_leR (Int32.not_lt.mp c369) sf_k0 (sf_any a1)
        refine pm_R_lo pm_M66 (pc_q := 5) rfl rfl rfl ?_
        refine pm_R_lo pm_M66 (pc_q := 6) rfl rfl rfl ?_
        refine pm_R_get pm_M66 (pc_q := 9) (v := .ref 17) rfl rfl T.e16 (by decide) (T.lt (by decide)) rfl rfl ?_
        refine pm_R_get pm_M66 (pc_q := 12) (v := .ref 23) rfl rfl T.e17 (by decide) (T.lt (by decide)) rfl rfl ?_
        refine pm_R_op pm_M66 (pc_q := 13) (st_q := [.int 1, .ref 23, .int a1]) rfl rfl rfl ?_
        obtain ⟨z372, ez373⟩ : ∃ y, f25 (Int32.toNatClampNeg 1) = y := ⟨_, rfl⟩
        have B374 : sf_B 0 3 z372 := ez373 ▸ (b27 1)
        refine pm_R_iald pm_M66 (pc_q := 14) (v := z372) rfl e26 (T.lt (by decide)) rfl ez373 rfl ?_
        refine pm_R_icmp pm_M66 (t := 21) (pc_q := 17) rfl rfl rfl (fun c375 => ?_) (fun c375 => ?_)
        · have B376 : sf_B 0 2 a1 := sf_ltL c375 B371 B374
          have B377 : sf_B 1 3 z372 := sf_ltR c375 B371 B374
          refine pm_R_lo pm_M66 (pc_q := 22) rfl rfl rfl ?_
          refine pm_R_get pm_M66 (pc_q := 25) (v := .ref 17) rfl rfl T.e16 (by decide) (T.lt (by decide)) rfl rfl ?_
          refine pm_R_get pm_M66 (pc_q := 28) (v := .ref 20) rfl rfl T.e17 (by decide) (T.lt (by decide)) rfl rfl ?_
          refine pm_R_lo pm_M66 (pc_q := 29) rfl rfl rfl ?_
          obtain ⟨f378, e379, b380⟩ := T.C 20 (by decide) (by decide)
          obtain ⟨l381, hx382⟩ := cl_there1 T e26 e379 ez373 c375 B376 (by decide)
          have hk383 := b380 _ _ hx382
          refine pm_R_aald pm_M66 (pc_q := 30) (v := .ref l381) rfl e379 (by decide) (by decide) (by decide) (T.lt (by decide)) (sf_in B376 (by decide) (by decide)) (by rw [hx382]; rfl) rfl ?_
          refine pm_R_ret pm_M66 (r := some (.ref l381)) rfl rfl ?_
          show pm_R _ 80 12 [.ref 16, .int a0, .int a1, .int a2, .int a3, .null, pm_no, pm_no, pm_no] [.ref l381] _ _
          refine pm_R_lo pm_M80 (pc_q := 14) (ls_q := [.ref 16, .int a0, .int a1, .int a2, .int a3, .null, .ref l381, pm_no, pm_no]) (st_q := []) rfl rfl rfl ?_
          refine pm_R_lo pm_M80 (pc_q := 16) rfl rfl rfl ?_
          refine pm_R_br pm_M80 (pc_q := 35) rfl rfl ?_
          refine pm_R_op pm_M80 (pc_q := 36) (st_q := [.int (-1)]) rfl rfl rfl ?_
          exact pm_R_ret pm_M80 (r := some (.int (-1))) rfl rfl (K (-1) m o h T (cl_F.refl (ck := ck) (A := [33, 34]) (n := 0) (s := 0) T.1) (rf_W.refl [] m))
        · skip
          refine pm_R_op pm_M66 (pc_q := 18) (st_q := [.null]) rfl rfl rfl ?_
          refine pm_R_br pm_M66 (pc_q := 30) rfl rfl ?_
          refine pm_R_ret pm_M66 (r := some (.null)) rfl rfl ?_
          show pm_R _ 80 12 [.ref 16, .int a0, .int a1, .int a2, .int a3, .null, pm_no, pm_no, pm_no] [.null] _ _
          refine pm_R_lo pm_M80 (pc_q := 14) (ls_q := [.ref 16, .int a0, .int a1, .int a2, .int a3, .null, .null, pm_no, pm_no]) (st_q := []) rfl rfl rfl ?_
          refine pm_R_lo pm_M80 (pc_q := 16) rfl rfl rfl ?_
          refine pm_R_br pm_M80 (pc_q := 35) rfl rfl ?_
          refine pm_R_op pm_M80 (pc_q := 36) (st_q := [.int (-1)]) rfl rfl rfl ?_
          exact pm_R_ret pm_M80 (r := some (.int (-1))) rfl rfl (K (-1) m o h T (cl_F.refl (ck := ck) (A := [33, 34]) (n := 0) (s := 0) T.1) (rf_W.refl [] m))

theorem cl_aux16 (v0 : Int) (q0 : 1 ≤ v0) : 0 < v0 := by omega
theorem cl_aux17 (v0 v1 : Int) (q0 : v0 = v1 - 1) : v0 < v1 := by omega
set_option maxRecDepth 100000 in
set_option maxHeartbeats 4000000 in
/-- SilentTable.tree -/
theorem cl_c90 {d : Nat} {ck : cl_K} {E : Nat → pm_E} {m : Nat → Int32} {o : Nat → Option Nat} {h : pm_H} {Q : Option Value → pm_H → Prop} {a0 : Int32} {a1 : Int32} {a2 : Int64} {a3 : Int32} (G : cl_G ck E) (T : cl_T ck E m o h)  (K : ∀ (r : Int32) (m_q : Nat → Int32) (o_q : Nat → Option Nat) (h_q : pm_H), cl_T ck E m_q o_q h_q → cl_F ck [33, 34, 35] 0 0 h h_q → rf_W [14, 15] m m_q → Q (some (.int r)) h_q) : pm_R (d + 16) 90 0 [.ref 16, .int a0, .int a1, .long a2, pm_no, .int a3, pm_no, pm_no, pm_no, pm_no, pm_no] [] h Q := by
  refine pm_R_lo pm_M90 (pc_q := 1) rfl rfl rfl ?_
  refine pm_R_lo pm_M90 (pc_q := 2) rfl rfl rfl ?_
  refine pm_R_cv pm_M90 (pc_q := 5) (a := 16) (ra := [.int a0]) (rest := []) (ls_q := [.ref 16, .int a0]) rfl rfl (Or.inl rfl) pm_M62 T.e16 rfl (by decide) (T.lt (by decide)) rfl rfl (Nat.le_of_ble_eq_true rfl) rfl rfl ?_
  refine pm_R_lo pm_M62 (pc_q := 1) rfl rfl rfl ?_
  refine pm_R_ifc pm_M62 (t := 17) (pc_q := 4) rfl rfl rfl (fun c1 => ?_) (fun c1 => ?_)
  · have B2 : sf_B (-2147483648) (-1) a0 := sf_ltL c1 (sf_any a0) sf_k0
    refine pm_R_op pm_M62 (pc_q := 18) (st_q := [.null]) rfl rfl rfl ?_
    refine pm_R_br pm_M62 (pc_q := 30) rfl rfl ?_
    refine pm_R_ret pm_M62 (r := some (.null)) rfl rfl ?_
    show pm_R _ 90 5 [.ref 16, .int a0, .int a1, .long a2, pm_no, .int a3, pm_no, pm_no, pm_no, pm_no, pm_no] [.null] _ _
    refine pm_R_lo pm_M90 (pc_q := 7) (ls_q := [.ref 16, .int a0, .int a1, .long a2, pm_no, .int a3, .null, pm_no, pm_no, pm_no, pm_no]) (st_q := []) rfl rfl rfl ?_
    refine pm_R_lo pm_M90 (pc_q := 8) rfl rfl rfl ?_
    refine pm_R_lo pm_M90 (pc_q := 9) rfl rfl rfl ?_
    refine pm_R_cv pm_M90 (pc_q := 12) (a := 16) (ra := [.int a1]) (rest := []) (ls_q := [.ref 16, .int a1]) rfl rfl (Or.inl rfl) pm_M66 T.e16 rfl (by decide) (T.lt (by decide)) rfl rfl (Nat.le_of_ble_eq_true rfl) rfl rfl ?_
    refine pm_R_lo pm_M66 (pc_q := 1) rfl rfl rfl ?_
    refine pm_R_ifc pm_M66 (t := 17) (pc_q := 4) rfl rfl rfl (fun c3 => ?_) (fun c3 => ?_)
    · have B4 : sf_B (-2147483648) (-1) a1 := sf_ltL c3 (sf_any a1) sf_k0
      refine pm_R_op pm_M66 (pc_q := 18) (st_q := [.null]) rfl rfl rfl ?_
      refine pm_R_br pm_M66 (pc_q := 30) rfl rfl ?_
      refine pm_R_ret pm_M66 (r := some (.null)) rfl rfl ?_
      show pm_R _ 90 12 [.ref 16, .int a0, .int a1, .long a2, pm_no, .int a3, .null, pm_no, pm_no, pm_no, pm_no] [.null] _ _
      refine pm_R_lo pm_M90 (pc_q := 14) (ls_q := [.ref 16, .int a0, .int a1, .long a2, pm_no, .int a3, .null, .null, pm_no, pm_no, pm_no]) (st_q := []) rfl rfl rfl ?_
      refine pm_R_lo pm_M90 (pc_q := 16) rfl rfl rfl ?_
      refine pm_R_br pm_M90 (pc_q := 30) rfl rfl ?_
      refine pm_R_op pm_M90 (pc_q := 32) (st_q := [.int (-2)]) rfl rfl rfl ?_
      exact pm_R_ret pm_M90 (r := some (.int (-2))) rfl rfl (K (-2) m o h T (cl_F.refl (ck := ck) (A := [33, 34, 35]) (n := 0) (s := 0) T.1) (rf_W.refl [14, 15] m))
    · have B5 : sf_B 0 2147483647 a1 := sf_leR (Int32.not_lt.mp c3) sf_k0 (sf_any a1)
      refine pm_R_lo pm_M66 (pc_q := 5) rfl rfl rfl ?_
      refine pm_R_lo pm_M66 (pc_q := 6) rfl rfl rfl ?_
      refine pm_R_get pm_M66 (pc_q := 9) (v := .ref 17) rfl rfl T.e16 (by decide) (T.lt (by decide)) rfl rfl ?_
      refine pm_R_get pm_M66 (pc_q := 12) (v := .ref 23) rfl rfl T.e17 (by decide) (T.lt (by decide)) rfl rfl ?_
      refine pm_R_op pm_M66 (pc_q := 13) (st_q := [.int 1, .ref 23, .int a1]) rfl rfl rfl ?_
      obtain ⟨f9, e10, b11⟩ := T.C 23 (by decide) (by decide)
      obtain ⟨z6, ez7⟩ : ∃ y, f9 (Int32.toNatClampNeg 1) = y := ⟨_, rfl⟩
      have B8 : sf_B 0 3 z6 := ez7 ▸ (b11 1)
      refine pm_R_iald pm_M66 (pc_q := 14) (v := z6) rfl e10 (T.lt (by decide)) rfl ez7 rfl ?_
      refine pm_R_icmp pm_M66 (t := 21) (pc_q := 17) rfl rfl rfl (fun c12 => ?_) (fun c12 => ?_)
      · have B13 : sf_B 0 2 a1 := sf_ltL c12 B5 B8
        have B14 : sf_B 1 3 z6 := sf_ltR c12 B5 B8
        refine pm_R_lo pm_M66 (pc_q := 22) rfl rfl rfl ?_
        refine pm_R_get pm_M66 (pc_q := 25) (v := .ref 17) rfl rfl T.e16 (by decide) (T.lt (by decide)) rfl rfl ?_
        refine pm_R_get pm_M66 (pc_q := 28) (v := .ref 20) rfl rfl T.e17 (by decide) (T.lt (by decide)) rfl rfl ?_
        refine pm_R_lo pm_M66 (pc_q := 29) rfl rfl rfl ?_
        obtain ⟨f15, e16, b17⟩ := T.C 20 (by decide) (by decide)
        obtain ⟨l18, hx19⟩ := cl_there1 T e10 e16 ez7 c12 B13 (by decide)
        have hk20 := b17 _ _ hx19
        refine pm_R_aald pm_M66 (pc_q := 30) (v := .ref l18) rfl e16 (by decide) (by decide) (by decide) (T.lt (by decide)) (sf_in B13 (by decide) (by decide)) (by rw [hx19]; rfl) rfl ?_
        refine pm_R_ret pm_M66 (r := some (.ref l18)) rfl rfl ?_
        show pm_R _ 90 12 [.ref 16, .int a0, .int a1, .long a2, pm_no, .int a3, .null, pm_no, pm_no, pm_no, pm_no] [.ref l18] _ _
        refine pm_R_lo pm_M90 (pc_q := 14) (ls_q := [.ref 16, .int a0, .int a1, .long a2, pm_no, .int a3, .null, .ref l18, pm_no, pm_no, pm_no]) (st_q := []) rfl rfl rfl ?_
        refine pm_R_lo pm_M90 (pc_q := 16) rfl rfl rfl ?_
        refine pm_R_br pm_M90 (pc_q := 30) rfl rfl ?_
        refine pm_R_op pm_M90 (pc_q := 32) (st_q := [.int (-2)]) rfl rfl rfl ?_
        exact pm_R_ret pm_M90 (r := some (.int (-2))) rfl rfl (K (-2) m o h T (cl_F.refl (ck := ck) (A := [33, 34, 35]) (n := 0) (s := 0) T.1) (rf_W.refl [14, 15] m))
      · skip
        refine pm_R_op pm_M66 (pc_q := 18) (st_q := [.null]) rfl rfl rfl ?_
        refine pm_R_br pm_M66 (pc_q := 30) rfl rfl ?_
        refine pm_R_ret pm_M66 (r := some (.null)) rfl rfl ?_
        show pm_R _ 90 12 [.ref 16, .int a0, .int a1, .long a2, pm_no, .int a3, .null, pm_no, pm_no, pm_no, pm_no] [.null] _ _
        refine pm_R_lo pm_M90 (pc_q := 14) (ls_q := [.ref 16, .int a0, .int a1, .long a2, pm_no, .int a3, .null, .null, pm_no, pm_no, pm_no]) (st_q := []) rfl rfl rfl ?_
        refine pm_R_lo pm_M90 (pc_q := 16) rfl rfl rfl ?_
        refine pm_R_br pm_M90 (pc_q := 30) rfl rfl ?_
        refine pm_R_op pm_M90 (pc_q := 32) (st_q := [.int (-2)]) rfl rfl rfl ?_
        exact pm_R_ret pm_M90 (r := some (.int (-2))) rfl rfl (K (-2) m o h T (cl_F.refl (ck := ck) (A := [33, 34, 35]) (n := 0) (s := 0) T.1) (rf_W.refl [14, 15] m))
  · have B21 : sf_B 0 2147483647 a0 := sf_leR (Int32.not_lt.mp c1) sf_k0 (sf_any a0)
    refine pm_R_lo pm_M62 (pc_q := 5) rfl rfl rfl ?_
    refine pm_R_lo pm_M62 (pc_q := 6) rfl rfl rfl ?_
    refine pm_R_get pm_M62 (pc_q := 9) (v := .ref 17) rfl rfl T.e16 (by decide) (T.lt (by decide)) rfl rfl ?_
    refine pm_R_get pm_M62 (pc_q := 12) (v := .ref 23) rfl rfl T.e17 (by decide) (T.lt (by decide)) rfl rfl ?_
    refine pm_R_op pm_M62 (pc_q := 13) (st_q := [.int 0, .ref 23, .int a0]) rfl rfl rfl ?_
    obtain ⟨f25, e26, b27⟩ := T.C 23 (by decide) (by decide)
    obtain ⟨z22, ez23⟩ : ∃ y, f25 (Int32.toNatClampNeg 0) = y := ⟨_, rfl⟩
    have B24 : sf_B 0 2 z22 := ez23 ▸ (b27 0)
    refine pm_R_iald pm_M62 (pc_q := 14) (v := z22) rfl e26 (T.lt (by decide)) rfl ez23 rfl ?_
    refine pm_R_icmp pm_M62 (t := 21) (pc_q := 17) rfl rfl rfl (fun c28 => ?_) (fun c28 => ?_)
    · have B29 : sf_B 0 1 a0 := sf_ltL c28 B21 B24
      have B30 : sf_B 1 2 z22 := sf_ltR c28 B21 B24
      refine pm_R_lo pm_M62 (pc_q := 22) rfl rfl rfl ?_
      refine pm_R_get pm_M62 (pc_q := 25) (v := .ref 17) rfl rfl T.e16 (by decide) (T.lt (by decide)) rfl rfl ?_
      refine pm_R_get pm_M62 (pc_q := 28) (v := .ref 19) rfl rfl T.e17 (by decide) (T.lt (by decide)) rfl rfl ?_
      refine pm_R_lo pm_M62 (pc_q := 29) rfl rfl rfl ?_
      obtain ⟨f31, e32, b33⟩ := T.C 19 (by decide) (by decide)
      obtain ⟨l34, hx35⟩ := cl_there0 T e26 e32 ez23 c28 B29 (by decide)
      have hk36 := b33 _ _ hx35
      refine pm_R_aald pm_M62 (pc_q := 30) (v := .ref l34) rfl e32 (by decide) (by decide) (by decide) (T.lt (by decide)) (sf_in B29 (by decide) (by decide)) (by rw [hx35]; rfl) rfl ?_
      refine pm_R_ret pm_M62 (r := some (.ref l34)) rfl rfl ?_
      show pm_R _ 90 5 [.ref 16, .int a0, .int a1, .long a2, pm_no, .int a3, pm_no, pm_no, pm_no, pm_no, pm_no] [.ref l34] _ _
      refine pm_R_lo pm_M90 (pc_q := 7) (ls_q := [.ref 16, .int a0, .int a1, .long a2, pm_no, .int a3, .ref l34, pm_no, pm_no, pm_no, pm_no]) (st_q := []) rfl rfl rfl ?_
      refine pm_R_lo pm_M90 (pc_q := 8) rfl rfl rfl ?_
      refine pm_R_lo pm_M90 (pc_q := 9) rfl rfl rfl ?_
      refine pm_R_cv pm_M90 (pc_q := 12) (a := 16) (ra := [.int a1]) (rest := []) (ls_q := [.ref 16, .int a1]) rfl rfl (Or.inl rfl) pm_M66 T.e16 rfl (by decide) (T.lt (by decide)) rfl rfl (Nat.le_of_ble_eq_true rfl) rfl rfl ?_
      refine pm_R_lo pm_M66 (pc_q := 1) rfl rfl rfl ?_
      refine pm_R_ifc pm_M66 (t := 17) (pc_q := 4) rfl rfl rfl (fun c37 => ?_) (fun c37 => ?_)
      · have B38 : sf_B (-2147483648) (-1) a1 := sf_ltL c37 (sf_any a1) sf_k0
        refine pm_R_op pm_M66 (pc_q := 18) (st_q := [.null]) rfl rfl rfl ?_
        refine pm_R_br pm_M66 (pc_q := 30) rfl rfl ?_
        refine pm_R_ret pm_M66 (r := some (.null)) rfl rfl ?_
        show pm_R _ 90 12 [.ref 16, .int a0, .int a1, .long a2, pm_no, .int a3, .ref l34, pm_no, pm_no, pm_no, pm_no] [.null] _ _
        refine pm_R_lo pm_M90 (pc_q := 14) (ls_q := [.ref 16, .int a0, .int a1, .long a2, pm_no, .int a3, .ref l34, .null, pm_no, pm_no, pm_no]) (st_q := []) rfl rfl rfl ?_
        refine pm_R_lo pm_M90 (pc_q := 16) rfl rfl rfl ?_
        refine pm_R_br pm_M90 (pc_q := 19) rfl rfl ?_
        refine pm_R_lo pm_M90 (pc_q := 21) rfl rfl rfl ?_
        refine pm_R_br pm_M90 (pc_q := 30) rfl rfl ?_
        refine pm_R_op pm_M90 (pc_q := 32) (st_q := [.int (-2)]) rfl rfl rfl ?_
        exact pm_R_ret pm_M90 (r := some (.int (-2))) rfl rfl (K (-2) m o h T (cl_F.refl (ck := ck) (A := [33, 34, 35]) (n := 0) (s := 0) T.1) (rf_W.refl [14, 15] m))
      · have B39 : sf_B 0 2147483647 a1 := sf_leR (Int32.not_lt.mp c37) sf_k0 (sf_any a1)
        refine pm_R_lo pm_M66 (pc_q := 5) rfl rfl rfl ?_
        refine pm_R_lo pm_M66 (pc_q := 6) rfl rfl rfl ?_
        refine pm_R_get pm_M66 (pc_q := 9) (v := .ref 17) rfl rfl T.e16 (by decide) (T.lt (by decide)) rfl rfl ?_
        refine pm_R_get pm_M66 (pc_q := 12) (v := .ref 23) rfl rfl T.e17 (by decide) (T.lt (by decide)) rfl rfl ?_
        refine pm_R_op pm_M66 (pc_q := 13) (st_q := [.int 1, .ref 23, .int a1]) rfl rfl rfl ?_
        obtain ⟨z40, ez41⟩ : ∃ y, f25 (Int32.toNatClampNeg 1) = y := ⟨_, rfl⟩
        have B42 : sf_B 0 3 z40 := ez41 ▸ (b27 1)
        refine pm_R_iald pm_M66 (pc_q := 14) (v := z40) rfl e26 (T.lt (by decide)) rfl ez41 rfl ?_
        refine pm_R_icmp pm_M66 (t := 21) (pc_q := 17) rfl rfl rfl (fun c43 => ?_) (fun c43 => ?_)
        · have B44 : sf_B 0 2 a1 := sf_ltL c43 B39 B42
          have B45 : sf_B 1 3 z40 := sf_ltR c43 B39 B42
          refine pm_R_lo pm_M66 (pc_q := 22) rfl rfl rfl ?_
          refine pm_R_get pm_M66 (pc_q := 25) (v := .ref 17) rfl rfl T.e16 (by decide) (T.lt (by decide)) rfl rfl ?_
          refine pm_R_get pm_M66 (pc_q := 28) (v := .ref 20) rfl rfl T.e17 (by decide) (T.lt (by decide)) rfl rfl ?_
          refine pm_R_lo pm_M66 (pc_q := 29) rfl rfl rfl ?_
          obtain ⟨f46, e47, b48⟩ := T.C 20 (by decide) (by decide)
          obtain ⟨l49, hx50⟩ := cl_there1 T e26 e47 ez41 c43 B44 (by decide)
          have hk51 := b48 _ _ hx50
          refine pm_R_aald pm_M66 (pc_q := 30) (v := .ref l49) rfl e47 (by decide) (by decide) (by decide) (T.lt (by decide)) (sf_in B44 (by decide) (by decide)) (by rw [hx50]; rfl) rfl ?_
          refine pm_R_ret pm_M66 (r := some (.ref l49)) rfl rfl ?_
          show pm_R _ 90 12 [.ref 16, .int a0, .int a1, .long a2, pm_no, .int a3, .ref l34, pm_no, pm_no, pm_no, pm_no] [.ref l49] _ _
          refine pm_R_lo pm_M90 (pc_q := 14) (ls_q := [.ref 16, .int a0, .int a1, .long a2, pm_no, .int a3, .ref l34, .ref l49, pm_no, pm_no, pm_no]) (st_q := []) rfl rfl rfl ?_
          refine pm_R_lo pm_M90 (pc_q := 16) rfl rfl rfl ?_
          refine pm_R_br pm_M90 (pc_q := 19) rfl rfl ?_
          refine pm_R_lo pm_M90 (pc_q := 21) rfl rfl rfl ?_
          refine pm_R_br pm_M90 (pc_q := 24) rfl rfl ?_
          refine pm_R_lo pm_M90 (pc_q := 25) rfl rfl rfl ?_
          refine pm_R_op pm_M90 (pc_q := 26) (st_q := [.long 0, .long a2]) rfl rfl rfl ?_
          refine sf_R_lcmp pm_M90 (pc_q := 27) rfl rfl (fun z52 e53 => ?_)
          refine pm_R_ifc pm_M90 (t := 33) (pc_q := 30) rfl rfl rfl (fun c54 => ?_) (fun c54 => ?_)
          · have B55 : sf_B 0 2147483647 z52 := sf_leR c54 sf_k0 (sf_any z52)
            have k56 := lf_ge e53 B55 (by decide)
            have B57 : lf_B 0 9223372036854775807 a2 := lf_geB k56 (⟨by decide, by decide⟩ : lf_B 0 0 0) (lf_any _)
            refine pm_R_lo pm_M90 (pc_q := 35) rfl rfl rfl ?_
            refine pm_R_ifc pm_M90 (t := 57) (pc_q := 38) rfl rfl rfl (fun c58 => ?_) (fun c58 => ?_)
            · have B59 : sf_B (-2147483648) (-1) a3 := sf_ltL c58 (sf_any a3) sf_k0
              refine pm_R_op pm_M90 (pc_q := 59) (st_q := [.int (-2)]) rfl rfl rfl ?_
              exact pm_R_ret pm_M90 (r := some (.int (-2))) rfl rfl (K (-2) m o h T (cl_F.refl (ck := ck) (A := [33, 34, 35]) (n := 0) (s := 0) T.1) (rf_W.refl [14, 15] m))
            · have B60 : sf_B 0 2147483647 a3 := sf_leR (Int32.not_lt.mp c58) sf_k0 (sf_any a3)
              refine pm_R_lo pm_M90 (pc_q := 40) rfl rfl rfl ?_
              refine pm_R_op pm_M90 (pc_q := 41) (st_q := [.int 2, .int a3]) rfl rfl rfl ?_
              refine pm_R_icmp pm_M90 (t := 60) (pc_q := 44) rfl rfl rfl (fun c61 => ?_) (fun c61 => ?_)
              · have B62 : sf_B 0 2 a3 := sf_leL c61 B60 sf_k2
                refine pm_R_lo pm_M90 (pc_q := 61) rfl rfl rfl ?_
                refine pm_R_get pm_M90 (pc_q := 64) (v := .ref 33) rfl rfl T.e16 (by decide) (T.lt (by decide)) rfl rfl ?_
                refine pm_R_lo pm_M90 (pc_q := 66) rfl rfl rfl ?_
                refine pm_R_lo pm_M90 (pc_q := 68) rfl rfl rfl ?_
                refine pm_R_cv pm_M90 (pc_q := 71) (a := 33) (ra := [.ref l49, .ref l34]) (rest := []) (ls_q := [.ref 33, .ref l34, .ref l49, pm_no, pm_no]) rfl rfl (Or.inl rfl) pm_M70 T.e33 rfl (by decide) (T.lt (by decide)) rfl rfl (Nat.le_of_ble_eq_true rfl) rfl rfl ?_
                refine cl_c70 (d := d + 12) G T hk36 hk51 (fun m65 o70 h66 T67 F68 W69 X71 X72 => ?_)
                have F73 := (cl_F.refl (ck := ck) (A := [33, 34, 35]) (n := 0) (s := 0) T.1).trans (N := 0) (S := 0) F68 (by decide) (by decide) (by decide)
                have W74 : rf_W [14, 15] m m65 := (rf_W.refl [14, 15] m).trans W69 (by decide)
                show pm_R _ 90 71 [.ref 16, .int a0, .int a1, .long a2, pm_no, .int a3, .ref l34, .ref l49, pm_no, pm_no, pm_no] [] _ _
                refine pm_R_lo pm_M90 (pc_q := 72) rfl rfl rfl ?_
                refine pm_R_get pm_M90 (pc_q := 75) (v := .ref 33) rfl rfl T67.e16 (by decide) (T67.lt (by decide)) rfl rfl ?_
                refine pm_R_get pm_M90 (pc_q := 78) (v := .ref 34) rfl rfl T67.e33 (by decide) (T67.lt (by decide)) rfl rfl ?_
                refine pm_R_op pm_M90 (pc_q := 79) (st_q := [.int 0, .ref 34]) rfl rfl rfl ?_
                refine pm_R_lo pm_M90 (pc_q := 81) rfl rfl rfl ?_
                obtain ⟨n75, f76, h77, h78, eE79, eE80, b81⟩ := (G.2.2.1 l49 hk51).2
                have kq82 := (G.2.2.1 l49 hk51).1
                refine pm_R_get pm_M90 (pc_q := 84) (v := .int (Int32.ofNat n75)) rfl rfl (T67.im hk51 (by decide) (by decide) eE79) (G.ge hk51 (by decide)) (T67.al hk51 (by decide)) rfl rfl ?_
                refine pm_R_op pm_M90 (pc_q := 85) (st_q := [.int 1, .int (Int32.ofNat n75), .int 0, .ref 34]) rfl rfl rfl ?_
                refine sf_R_isub pm_M90 (pc_q := 86) rfl rfl (sf_ofB1 h78 h77 (by decide)) sf_k1 (by decide) (by decide) (fun z83 e84 B85 => ?_)
                refine pm_R_cs pm_M90 (pc_q := 89) (ra := [.int z83, .int 0]) (rest := [.ref 34]) (ls_q := [.int 0, .int z83]) rfl rfl (Or.inl rfl) pm_M73 rfl rfl (Nat.le_of_ble_eq_true rfl) rfl rfl ?_
                refine pm_R_lo pm_M73 (pc_q := 1) rfl rfl rfl ?_
                refine pm_R_lo pm_M73 (pc_q := 2) rfl rfl rfl ?_
                refine pm_R_op pm_M73 (pc_q := 3) (st_q := [.int 1, .int z83, .int z83]) rfl rfl rfl ?_
                refine sf_R_iadd pm_M73 (pc_q := 4) rfl rfl B85 sf_k1 (by decide) (by decide) (fun z86 e87 B88 => ?_)
                refine sf_R_imul pm_M73 (pc_q := 5) rfl rfl B85 B88 (by decide) (by decide) (by decide) (fun z89 e90 B91 => ?_)
                refine pm_R_op pm_M73 (pc_q := 6) (st_q := [.int 2, .int z89]) rfl rfl rfl ?_
                refine sf_R_idiv pm_M73 (pc_q := 7) rfl rfl B91 sf_k2 (by decide) (by decide) (fun z92 e93 B94 => ?_)
                refine pm_R_lo pm_M73 (pc_q := 8) rfl rfl rfl ?_
                refine sf_R_iadd pm_M73 (pc_q := 9) rfl rfl B94 sf_k0 (by decide) (by decide) (fun z95 e96 B97 => ?_)
                refine pm_R_ret pm_M73 (r := some (.int z95)) rfl (pm_ret_i _) ?_
                show pm_R _ 90 89 [.ref 16, .int a0, .int a1, .long a2, pm_no, .int a3, .ref l34, .ref l49, pm_no, pm_no, pm_no] [.int z95, .ref 34] _ _
                refine pm_R_op pm_M90 (pc_q := 91) (st_q := [.int 6, .int z95, .ref 34]) rfl rfl rfl ?_
                refine sf_R_imul pm_M90 (pc_q := 92) rfl rfl B97 sf_k6 (by decide) (by decide) (by decide) (fun z98 e99 B100 => ?_)
                obtain ⟨f104, e105⟩ := T67.C 34 (by decide) (by decide)
                obtain ⟨z101, ez102⟩ : ∃ y, f104 (Int32.toNatClampNeg z98) = y := ⟨_, rfl⟩
                refine pm_R_lald pm_M90 (pc_q := 93) (v := z101) rfl e105 (by decide) (T67.lt (by decide)) (sf_in B100 (by decide) (by decide)) ez102 rfl ?_
                refine pm_R_lo pm_M90 (pc_q := 95) (ls_q := [.ref 16, .int a0, .int a1, .long a2, pm_no, .int a3, .ref l34, .ref l49, .long z101, pm_no, pm_no]) (st_q := []) rfl rfl rfl ?_
                refine pm_R_lo pm_M90 (pc_q := 96) rfl rfl rfl ?_
                refine pm_R_lo pm_M90 (pc_q := 98) rfl rfl rfl ?_
                refine sf_R_lcmp pm_M90 (pc_q := 99) rfl rfl (fun z107 e108 => ?_)
                refine pm_R_ifc pm_M90 (t := 114) (pc_q := 102) rfl rfl rfl (fun c109 => ?_) (fun c109 => ?_)
                · have B110 : sf_B (-2147483648) (-1) z107 := sf_ltL c109 (sf_any z107) sf_k0
                  have k111 := lf_lt e108 B110 (by decide)
                  have k112 := sf_lneB e108 B110 (by decide)
                  refine pm_R_lo pm_M90 (pc_q := 115) rfl rfl rfl ?_
                  refine pm_R_get pm_M90 (pc_q := 118) (v := .ref 33) (pm_q90_1 (Nat.le_of_ble_eq_true rfl)) rfl T67.e16 (by decide) (T67.lt (by decide)) rfl rfl ?_
                  refine pm_R_lo pm_M90 (pc_q := 119) (pm_q90_1 (Nat.le_of_ble_eq_true rfl)) rfl rfl ?_
                  refine pm_R_cv pm_M90 (pc_q := 122) (a := 33) (ra := [.long a2]) (rest := []) (ls_q := [.ref 33, .long a2, pm_no]) (pm_q90_1 (Nat.le_of_ble_eq_true rfl)) rfl (Or.inl rfl) pm_M91 T67.e33 rfl (by decide) (T67.lt (by decide)) rfl rfl (Nat.le_of_ble_eq_true rfl) rfl rfl ?_
                  refine pm_R_lo pm_M91 (pc_q := 1) rfl rfl rfl ?_
                  refine pm_R_op pm_M91 (pc_q := 2) (st_q := [.int (-1), .ref 33]) rfl rfl rfl ?_
                  refine cl_R_put33 G pm_M91 T67 (k := 14) (pc_q := 5) rfl rfl rfl (by decide) rfl rfl (sf_any _) rfl rfl rfl rfl rfl (fun h113 m116 em117 T114 F115 => ?_)
                  have F118 := F115.cl (ck := ck) T67.1
                  have F119 := F73.trans (N := 0) (S := 0) F118 (by decide) (by decide) (by decide)
                  have B120 : sf_B (-1) (-1) (m116 14) := by rw [em117]; exact sf_kn1
                  have W122 : rf_W [14, 15] m m116 := by rw [em117]; exact W74.put (by decide)
                  refine pm_R_lo pm_M91 (pc_q := 6) rfl rfl rfl ?_
                  refine pm_R_op pm_M91 (pc_q := 7) (st_q := [.int (-1), .ref 33]) rfl rfl rfl ?_
                  refine cl_R_put33 G pm_M91 T114 (k := 15) (pc_q := 10) rfl rfl rfl (by decide) rfl rfl (sf_any _) rfl rfl rfl rfl rfl (fun h123 m126 em127 T124 F125 => ?_)
                  have F128 := F125.cl (ck := ck) T114.1
                  have F129 := F119.trans (N := 0) (S := 0) F128 (by decide) (by decide) (by decide)
                  have B130 : sf_B (-1) (-1) (m126 14) := by rw [em127]; exact B120
                  have B131 : sf_B (-1) (-1) (m126 15) := by rw [em127]; exact sf_kn1
                  have W133 : rf_W [14, 15] m m126 := by rw [em127]; exact W122.put (by decide)
                  refine pm_R_lo pm_M91 (pc_q := 11) rfl rfl rfl ?_
                  refine pm_R_op pm_M91 (pc_q := 12) (st_q := [.int 0, .ref 33]) rfl rfl rfl ?_
                  refine pm_R_op pm_M91 (pc_q := 13) (st_q := [.int 0, .int 0, .ref 33]) rfl rfl rfl ?_
                  refine pm_R_lo pm_M91 (pc_q := 14) rfl rfl rfl ?_
                  refine pm_R_get pm_M91 (pc_q := 17) (v := .ref l49) rfl rfl T124.e33 (by decide) (T124.lt (by decide)) (by show some (va_rf (o70 2)) = _; rw [X72]; rfl) rfl ?_
                  refine pm_R_get pm_M91 (pc_q := 20) (v := .int (Int32.ofNat n75)) rfl rfl (T124.im hk51 (by decide) (by decide) eE79) (G.ge hk51 (by decide)) (T124.al hk51 (by decide)) rfl rfl ?_
                  refine pm_R_op pm_M91 (pc_q := 21) (st_q := [.int 1, .int (Int32.ofNat n75), .int 0, .int 0, .ref 33]) rfl rfl rfl ?_
                  refine sf_R_isubV pm_M91 (pc_q := 22) rfl rfl (sf_ofB1 h78 h77 (by decide)) sf_k1 (by decide) (by decide) e84 ?_
                  refine pm_R_lo pm_M91 (pc_q := 23) rfl rfl rfl ?_
                  refine pm_R_op pm_M91 (pc_q := 24) (st_q := [.int 1, .long a2, .int z83, .int 0, .int 0, .ref 33]) rfl rfl rfl ?_
                  refine pm_R_cv pm_M91 (pc_q := 27) (a := 33) (ra := [.int 1, .long a2, .int z83, .int 0, .int 0]) (rest := []) (ls_q := [.ref 33, .int 0, .int 0, .int z83, .long a2, pm_no, .int 1, pm_no, pm_no, pm_no, pm_no, pm_no, pm_no, pm_no, pm_no, pm_no, pm_no, pm_no]) rfl rfl (Or.inl rfl) pm_M92 T124.e33 rfl (by decide) (T124.lt (by decide)) rfl rfl (Nat.le_of_ble_eq_true rfl) rfl rfl ?_
                  refine cl_c92_1 (d := d + 0) G T124 (sf_weak sf_k0 (by decide) (by decide)) (sf_weak sf_k0 (by decide) (by decide)) B85 X71 X72 eE79 (Int32.lt_iff_toInt_lt.mpr (cl_aux16 _ (sf_ofB1 h78 h77 (by decide)).1)) (Int32.lt_iff_toInt_lt.mpr (cl_aux17 _ _ e84)) (fun r134 m136 h137 T138 F139 W140 => ?_)
                  have F141 := F129.trans (N := 0) (S := 0) F139 (by decide) (by decide) (by decide)
                  have W142 : rf_W [14, 15] m m136 := W133.trans W140 (by decide)
                  show pm_R _ 91 27 [.ref 33, .long a2, pm_no] [.int r134] _ _
                  refine pm_R_ret pm_M91 (r := some (.int r134)) rfl (pm_ret_i _) ?_
                  show pm_R _ 90 122 [.ref 16, .int a0, .int a1, .long a2, pm_no, .int a3, .ref l34, .ref l49, .long z101, pm_no, pm_no] [.int r134] _ _
                  refine pm_R_lo pm_M90 (pc_q := 124) (ls_q := [.ref 16, .int a0, .int a1, .long a2, pm_no, .int a3, .ref l34, .ref l49, .long z101, pm_no, .int r134]) (st_q := []) (pm_q90_1 (Nat.le_of_ble_eq_true rfl)) rfl rfl ?_
                  refine pm_R_lo pm_M90 (pc_q := 126) (pm_q90_1 (Nat.le_of_ble_eq_true rfl)) rfl rfl ?_
                  by_cases c143 : a3 = 0
                  · rw [c143]
                    refine pm_R_br pm_M90 (pc_q := 152) (st_q := []) (pm_q90_1 (Nat.le_of_ble_eq_true rfl)) rfl ?_
                    refine pm_R_lo pm_M90 (pc_q := 154) (pm_q90_1 (Nat.le_of_ble_eq_true rfl)) rfl rfl ?_
                    exact pm_R_ret pm_M90 (r := some (.int r134)) (pm_q90_1 (Nat.le_of_ble_eq_true rfl)) (pm_ret_i _) (K r134 m136 o70 h137 T138 F141 W142)
                  have B144 : sf_B 1 2 a3 := sf_neL0 c143 sf_k0 B62
                  by_cases c145 : a3 = 1
                  · rw [c145]
                    refine pm_R_br pm_M90 (pc_q := 155) (st_q := []) (pm_q90_1 (Nat.le_of_ble_eq_true rfl)) rfl ?_
                    refine pm_R_lo pm_M90 (pc_q := 156) (pm_q90_1 (Nat.le_of_ble_eq_true rfl)) rfl rfl ?_
                    refine pm_R_get pm_M90 (pc_q := 159) (v := .ref 33) (pm_q90_1 (Nat.le_of_ble_eq_true rfl)) rfl T138.e16 (by decide) (T138.lt (by decide)) rfl rfl ?_
                    refine pm_R_get pm_M90 (pc_q := 162) (v := .int (m136 14)) (pm_q90_1 (Nat.le_of_ble_eq_true rfl)) rfl T138.e33 (by decide) (T138.lt (by decide)) rfl rfl ?_
                    exact pm_R_ret pm_M90 (r := some (.int (m136 14))) (pm_q90_1 (Nat.le_of_ble_eq_true rfl)) (pm_ret_i _) (K (m136 14) m136 o70 h137 T138 F141 W142)
                  have B146 : sf_B 2 2 a3 := sf_neL0 c145 sf_k1 B144
                  rw [sf_pt2 B146 sf_k2]
                  refine pm_R_br pm_M90 (pc_q := 163) (st_q := []) (pm_q90_1 (Nat.le_of_ble_eq_true rfl)) rfl ?_
                  refine pm_R_lo pm_M90 (pc_q := 164) (pm_q90_1 (Nat.le_of_ble_eq_true rfl)) rfl rfl ?_
                  refine pm_R_get pm_M90 (pc_q := 167) (v := .ref 33) (pm_q90_1 (Nat.le_of_ble_eq_true rfl)) rfl T138.e16 (by decide) (T138.lt (by decide)) rfl rfl ?_
                  refine pm_R_get pm_M90 (pc_q := 170) (v := .int (m136 15)) (pm_q90_1 (Nat.le_of_ble_eq_true rfl)) rfl T138.e33 (by decide) (T138.lt (by decide)) rfl rfl ?_
                  exact pm_R_ret pm_M90 (r := some (.int (m136 15))) (pm_q90_1 (Nat.le_of_ble_eq_true rfl)) (pm_ret_i _) (K (m136 15) m136 o70 h137 T138 F141 W142)
                · have B147 : sf_B 0 2147483647 z107 := sf_leR (Int32.not_lt.mp c109) sf_k0 (sf_any z107)
                  have k148 := lf_ge e108 B147 (by decide)
                  refine pm_R_lo pm_M90 (pc_q := 104) rfl rfl rfl ?_
                  refine pm_R_ldc2 pm_M90 (pc_q := 107) rfl rfl rfl ?_
                  refine sf_R_lcmp pm_M90 (pc_q := 108) rfl rfl (fun z149 e150 => ?_)
                  refine pm_R_ifc pm_M90 (t := 114) (pc_q := 111) rfl rfl rfl (fun c151 => ?_) (fun c151 => ?_)
                  · have B152 : sf_B 0 0 z149 := sf_eqL c151 sf_k0
                    have B153 : lf_B (-1) (-1) z101 := lf_eqB e150 B152 (⟨by decide, by decide⟩ : lf_B (-1) (-1) (-1))
                    refine pm_R_lo pm_M90 (pc_q := 115) rfl rfl rfl ?_
                    refine pm_R_get pm_M90 (pc_q := 118) (v := .ref 33) (pm_q90_1 (Nat.le_of_ble_eq_true rfl)) rfl T67.e16 (by decide) (T67.lt (by decide)) rfl rfl ?_
                    refine pm_R_lo pm_M90 (pc_q := 119) (pm_q90_1 (Nat.le_of_ble_eq_true rfl)) rfl rfl ?_
                    refine pm_R_cv pm_M90 (pc_q := 122) (a := 33) (ra := [.long a2]) (rest := []) (ls_q := [.ref 33, .long a2, pm_no]) (pm_q90_1 (Nat.le_of_ble_eq_true rfl)) rfl (Or.inl rfl) pm_M91 T67.e33 rfl (by decide) (T67.lt (by decide)) rfl rfl (Nat.le_of_ble_eq_true rfl) rfl rfl ?_
                    refine pm_R_lo pm_M91 (pc_q := 1) rfl rfl rfl ?_
                    refine pm_R_op pm_M91 (pc_q := 2) (st_q := [.int (-1), .ref 33]) rfl rfl rfl ?_
                    refine cl_R_put33 G pm_M91 T67 (k := 14) (pc_q := 5) rfl rfl rfl (by decide) rfl rfl (sf_any _) rfl rfl rfl rfl rfl (fun h154 m157 em158 T155 F156 => ?_)
                    have F159 := F156.cl (ck := ck) T67.1
                    have F160 := F73.trans (N := 0) (S := 0) F159 (by decide) (by decide) (by decide)
                    have B161 : sf_B (-1) (-1) (m157 14) := by rw [em158]; exact sf_kn1
                    have W163 : rf_W [14, 15] m m157 := by rw [em158]; exact W74.put (by decide)
                    refine pm_R_lo pm_M91 (pc_q := 6) rfl rfl rfl ?_
                    refine pm_R_op pm_M91 (pc_q := 7) (st_q := [.int (-1), .ref 33]) rfl rfl rfl ?_
                    refine cl_R_put33 G pm_M91 T155 (k := 15) (pc_q := 10) rfl rfl rfl (by decide) rfl rfl (sf_any _) rfl rfl rfl rfl rfl (fun h164 m167 em168 T165 F166 => ?_)
                    have F169 := F166.cl (ck := ck) T155.1
                    have F170 := F160.trans (N := 0) (S := 0) F169 (by decide) (by decide) (by decide)
                    have B171 : sf_B (-1) (-1) (m167 14) := by rw [em168]; exact B161
                    have B172 : sf_B (-1) (-1) (m167 15) := by rw [em168]; exact sf_kn1
                    have W174 : rf_W [14, 15] m m167 := by rw [em168]; exact W163.put (by decide)
                    refine pm_R_lo pm_M91 (pc_q := 11) rfl rfl rfl ?_
                    refine pm_R_op pm_M91 (pc_q := 12) (st_q := [.int 0, .ref 33]) rfl rfl rfl ?_
                    refine pm_R_op pm_M91 (pc_q := 13) (st_q := [.int 0, .int 0, .ref 33]) rfl rfl rfl ?_
                    refine pm_R_lo pm_M91 (pc_q := 14) rfl rfl rfl ?_
                    refine pm_R_get pm_M91 (pc_q := 17) (v := .ref l49) rfl rfl T165.e33 (by decide) (T165.lt (by decide)) (by show some (va_rf (o70 2)) = _; rw [X72]; rfl) rfl ?_
                    refine pm_R_get pm_M91 (pc_q := 20) (v := .int (Int32.ofNat n75)) rfl rfl (T165.im hk51 (by decide) (by decide) eE79) (G.ge hk51 (by decide)) (T165.al hk51 (by decide)) rfl rfl ?_
                    refine pm_R_op pm_M91 (pc_q := 21) (st_q := [.int 1, .int (Int32.ofNat n75), .int 0, .int 0, .ref 33]) rfl rfl rfl ?_
                    refine sf_R_isubV pm_M91 (pc_q := 22) rfl rfl (sf_ofB1 h78 h77 (by decide)) sf_k1 (by decide) (by decide) e84 ?_
                    refine pm_R_lo pm_M91 (pc_q := 23) rfl rfl rfl ?_
                    refine pm_R_op pm_M91 (pc_q := 24) (st_q := [.int 1, .long a2, .int z83, .int 0, .int 0, .ref 33]) rfl rfl rfl ?_
                    refine pm_R_cv pm_M91 (pc_q := 27) (a := 33) (ra := [.int 1, .long a2, .int z83, .int 0, .int 0]) (rest := []) (ls_q := [.ref 33, .int 0, .int 0, .int z83, .long a2, pm_no, .int 1, pm_no, pm_no, pm_no, pm_no, pm_no, pm_no, pm_no, pm_no, pm_no, pm_no, pm_no]) rfl rfl (Or.inl rfl) pm_M92 T165.e33 rfl (by decide) (T165.lt (by decide)) rfl rfl (Nat.le_of_ble_eq_true rfl) rfl rfl ?_
                    refine cl_c92_1 (d := d + 0) G T165 (sf_weak sf_k0 (by decide) (by decide)) (sf_weak sf_k0 (by decide) (by decide)) B85 X71 X72 eE79 (Int32.lt_iff_toInt_lt.mpr (cl_aux16 _ (sf_ofB1 h78 h77 (by decide)).1)) (Int32.lt_iff_toInt_lt.mpr (cl_aux17 _ _ e84)) (fun r175 m177 h178 T179 F180 W181 => ?_)
                    have F182 := F170.trans (N := 0) (S := 0) F180 (by decide) (by decide) (by decide)
                    have W183 : rf_W [14, 15] m m177 := W174.trans W181 (by decide)
                    show pm_R _ 91 27 [.ref 33, .long a2, pm_no] [.int r175] _ _
                    refine pm_R_ret pm_M91 (r := some (.int r175)) rfl (pm_ret_i _) ?_
                    show pm_R _ 90 122 [.ref 16, .int a0, .int a1, .long a2, pm_no, .int a3, .ref l34, .ref l49, .long z101, pm_no, pm_no] [.int r175] _ _
                    refine pm_R_lo pm_M90 (pc_q := 124) (ls_q := [.ref 16, .int a0, .int a1, .long a2, pm_no, .int a3, .ref l34, .ref l49, .long z101, pm_no, .int r175]) (st_q := []) (pm_q90_1 (Nat.le_of_ble_eq_true rfl)) rfl rfl ?_
                    refine pm_R_lo pm_M90 (pc_q := 126) (pm_q90_1 (Nat.le_of_ble_eq_true rfl)) rfl rfl ?_
                    by_cases c184 : a3 = 0
                    · rw [c184]
                      refine pm_R_br pm_M90 (pc_q := 152) (st_q := []) (pm_q90_1 (Nat.le_of_ble_eq_true rfl)) rfl ?_
                      refine pm_R_lo pm_M90 (pc_q := 154) (pm_q90_1 (Nat.le_of_ble_eq_true rfl)) rfl rfl ?_
                      exact pm_R_ret pm_M90 (r := some (.int r175)) (pm_q90_1 (Nat.le_of_ble_eq_true rfl)) (pm_ret_i _) (K r175 m177 o70 h178 T179 F182 W183)
                    have B185 : sf_B 1 2 a3 := sf_neL0 c184 sf_k0 B62
                    by_cases c186 : a3 = 1
                    · rw [c186]
                      refine pm_R_br pm_M90 (pc_q := 155) (st_q := []) (pm_q90_1 (Nat.le_of_ble_eq_true rfl)) rfl ?_
                      refine pm_R_lo pm_M90 (pc_q := 156) (pm_q90_1 (Nat.le_of_ble_eq_true rfl)) rfl rfl ?_
                      refine pm_R_get pm_M90 (pc_q := 159) (v := .ref 33) (pm_q90_1 (Nat.le_of_ble_eq_true rfl)) rfl T179.e16 (by decide) (T179.lt (by decide)) rfl rfl ?_
                      refine pm_R_get pm_M90 (pc_q := 162) (v := .int (m177 14)) (pm_q90_1 (Nat.le_of_ble_eq_true rfl)) rfl T179.e33 (by decide) (T179.lt (by decide)) rfl rfl ?_
                      exact pm_R_ret pm_M90 (r := some (.int (m177 14))) (pm_q90_1 (Nat.le_of_ble_eq_true rfl)) (pm_ret_i _) (K (m177 14) m177 o70 h178 T179 F182 W183)
                    have B187 : sf_B 2 2 a3 := sf_neL0 c186 sf_k1 B185
                    rw [sf_pt2 B187 sf_k2]
                    refine pm_R_br pm_M90 (pc_q := 163) (st_q := []) (pm_q90_1 (Nat.le_of_ble_eq_true rfl)) rfl ?_
                    refine pm_R_lo pm_M90 (pc_q := 164) (pm_q90_1 (Nat.le_of_ble_eq_true rfl)) rfl rfl ?_
                    refine pm_R_get pm_M90 (pc_q := 167) (v := .ref 33) (pm_q90_1 (Nat.le_of_ble_eq_true rfl)) rfl T179.e16 (by decide) (T179.lt (by decide)) rfl rfl ?_
                    refine pm_R_get pm_M90 (pc_q := 170) (v := .int (m177 15)) (pm_q90_1 (Nat.le_of_ble_eq_true rfl)) rfl T179.e33 (by decide) (T179.lt (by decide)) rfl rfl ?_
                    exact pm_R_ret pm_M90 (r := some (.int (m177 15))) (pm_q90_1 (Nat.le_of_ble_eq_true rfl)) (pm_ret_i _) (K (m177 15) m177 o70 h178 T179 F182 W183)
                  · have k188 := sf_lneC e150 c151
                    refine pm_R_op pm_M90 (pc_q := 113) (st_q := [.int (-2)]) rfl rfl rfl ?_
                    exact pm_R_ret pm_M90 (r := some (.int (-2))) rfl rfl (K (-2) m65 o70 h66 T67 F73 W74)
              · have B189 : sf_B 3 2147483647 a3 := sf_ltR (Int32.not_le.mp c61) sf_k2 B60
                refine pm_R_lo pm_M90 (pc_q := 46) rfl rfl rfl ?_
                refine pm_R_lo pm_M90 (pc_q := 48) rfl rfl rfl ?_
                refine pm_R_op pm_M90 (pc_q := 50) (st_q := [.int 10, .int a3, .ref l49]) rfl rfl rfl ?_
                refine sf_R_isub pm_M90 (pc_q := 51) rfl rfl B189 sf_k10 (by decide) (by decide) (fun z190 e191 B192 => ?_)
                obtain ⟨n193, f194, h195, h196, eE197, eE198, b199⟩ := (G.2.2.1 l49 hk51).2
                have kq200 := (G.2.2.1 l49 hk51).1
                refine pm_R_cv pm_M90 (pc_q := 54) (a := l49) (ra := [.int z190]) (rest := []) (ls_q := [.ref l49, .int z190]) rfl rfl (Or.inl rfl) pm_M67 (T.im hk51 (by decide) (by decide) eE197) rfl (G.ge hk51 (by decide)) (T.al hk51 (by decide)) rfl rfl (Nat.le_of_ble_eq_true rfl) rfl rfl ?_
                refine pm_R_lo pm_M67 (pc_q := 1) rfl rfl rfl ?_
                refine pm_R_ifc pm_M67 (t := 16) (pc_q := 4) rfl rfl rfl (fun c201 => ?_) (fun c201 => ?_)
                · have B202 : sf_B (-7) (-1) z190 := sf_ltL c201 B192 sf_k0
                  refine pm_R_op pm_M67 (pc_q := 17) (st_q := [.int 0]) rfl rfl rfl ?_
                  refine pm_R_ret pm_M67 (r := some (.int 0)) rfl rfl ?_
                  show pm_R _ 90 54 [.ref 16, .int a0, .int a1, .long a2, pm_no, .int a3, .ref l34, .ref l49, pm_no, pm_no, pm_no] [.int 0] _ _
                  refine pm_R_br pm_M90 (pc_q := 57) (st_q := []) rfl rfl ?_
                  refine pm_R_op pm_M90 (pc_q := 59) (st_q := [.int (-2)]) rfl rfl rfl ?_
                  exact pm_R_ret pm_M90 (r := some (.int (-2))) rfl rfl (K (-2) m o h T (cl_F.refl (ck := ck) (A := [33, 34, 35]) (n := 0) (s := 0) T.1) (rf_W.refl [14, 15] m))
                · have B203 : sf_B 0 2147483637 z190 := sf_leR (Int32.not_lt.mp c201) sf_k0 B192
                  refine pm_R_lo pm_M67 (pc_q := 5) rfl rfl rfl ?_
                  refine pm_R_lo pm_M67 (pc_q := 6) rfl rfl rfl ?_
                  refine pm_R_get pm_M67 (pc_q := 9) (v := .int (Int32.ofNat n193)) rfl rfl (T.im hk51 (by decide) (by decide) eE197) (G.ge hk51 (by decide)) (T.al hk51 (by decide)) rfl rfl ?_
                  refine pm_R_icmp pm_M67 (t := 16) (pc_q := 12) rfl rfl rfl (fun c204 => ?_) (fun c204 => ?_)
                  · have B205 : sf_B 1 2147483637 z190 := sf_leR c204 (sf_ofB1 h196 h195 (by decide)) B203
                    refine pm_R_op pm_M67 (pc_q := 17) (st_q := [.int 0]) rfl rfl rfl ?_
                    refine pm_R_ret pm_M67 (r := some (.int 0)) rfl rfl ?_
                    show pm_R _ 90 54 [.ref 16, .int a0, .int a1, .long a2, pm_no, .int a3, .ref l34, .ref l49, pm_no, pm_no, pm_no] [.int 0] _ _
                    refine pm_R_br pm_M90 (pc_q := 57) (st_q := []) rfl rfl ?_
                    refine pm_R_op pm_M90 (pc_q := 59) (st_q := [.int (-2)]) rfl rfl rfl ?_
                    exact pm_R_ret pm_M90 (r := some (.int (-2))) rfl rfl (K (-2) m o h T (cl_F.refl (ck := ck) (A := [33, 34, 35]) (n := 0) (s := 0) T.1) (rf_W.refl [14, 15] m))
                  · have B206 : sf_B 0 11 z190 := sf_ltL (Int32.not_le.mp c204) B203 (sf_ofB1 h196 h195 (by decide))
                    refine pm_R_op pm_M67 (pc_q := 13) (st_q := [.int 1]) rfl rfl rfl ?_
                    refine pm_R_br pm_M67 (pc_q := 17) rfl rfl ?_
                    refine pm_R_ret pm_M67 (r := some (.int 1)) rfl rfl ?_
                    show pm_R _ 90 54 [.ref 16, .int a0, .int a1, .long a2, pm_no, .int a3, .ref l34, .ref l49, pm_no, pm_no, pm_no] [.int 1] _ _
                    refine pm_R_br pm_M90 (pc_q := 60) (st_q := []) rfl rfl ?_
                    refine pm_R_lo pm_M90 (pc_q := 61) rfl rfl rfl ?_
                    refine pm_R_get pm_M90 (pc_q := 64) (v := .ref 33) rfl rfl T.e16 (by decide) (T.lt (by decide)) rfl rfl ?_
                    refine pm_R_lo pm_M90 (pc_q := 66) rfl rfl rfl ?_
                    refine pm_R_lo pm_M90 (pc_q := 68) rfl rfl rfl ?_
                    refine pm_R_cv pm_M90 (pc_q := 71) (a := 33) (ra := [.ref l49, .ref l34]) (rest := []) (ls_q := [.ref 33, .ref l34, .ref l49, pm_no, pm_no]) rfl rfl (Or.inl rfl) pm_M70 T.e33 rfl (by decide) (T.lt (by decide)) rfl rfl (Nat.le_of_ble_eq_true rfl) rfl rfl ?_
                    refine cl_c70 (d := d + 12) G T hk36 hk51 (fun m209 o214 h210 T211 F212 W213 X215 X216 => ?_)
                    have F217 := (cl_F.refl (ck := ck) (A := [33, 34, 35]) (n := 0) (s := 0) T.1).trans (N := 0) (S := 0) F212 (by decide) (by decide) (by decide)
                    have W218 : rf_W [14, 15] m m209 := (rf_W.refl [14, 15] m).trans W213 (by decide)
                    show pm_R _ 90 71 [.ref 16, .int a0, .int a1, .long a2, pm_no, .int a3, .ref l34, .ref l49, pm_no, pm_no, pm_no] [] _ _
                    refine pm_R_lo pm_M90 (pc_q := 72) rfl rfl rfl ?_
                    refine pm_R_get pm_M90 (pc_q := 75) (v := .ref 33) rfl rfl T211.e16 (by decide) (T211.lt (by decide)) rfl rfl ?_
                    refine pm_R_get pm_M90 (pc_q := 78) (v := .ref 34) rfl rfl T211.e33 (by decide) (T211.lt (by decide)) rfl rfl ?_
                    refine pm_R_op pm_M90 (pc_q := 79) (st_q := [.int 0, .ref 34]) rfl rfl rfl ?_
                    refine pm_R_lo pm_M90 (pc_q := 81) rfl rfl rfl ?_
                    refine pm_R_get pm_M90 (pc_q := 84) (v := .int (Int32.ofNat n193)) rfl rfl (T211.im hk51 (by decide) (by decide) eE197) (G.ge hk51 (by decide)) (T211.al hk51 (by decide)) rfl rfl ?_
                    refine pm_R_op pm_M90 (pc_q := 85) (st_q := [.int 1, .int (Int32.ofNat n193), .int 0, .ref 34]) rfl rfl rfl ?_
                    refine sf_R_isub pm_M90 (pc_q := 86) rfl rfl (sf_ofB1 h196 h195 (by decide)) sf_k1 (by decide) (by decide) (fun z219 e220 B221 => ?_)
                    refine pm_R_cs pm_M90 (pc_q := 89) (ra := [.int z219, .int 0]) (rest := [.ref 34]) (ls_q := [.int 0, .int z219]) rfl rfl (Or.inl rfl) pm_M73 rfl rfl (Nat.le_of_ble_eq_true rfl) rfl rfl ?_
                    refine pm_R_lo pm_M73 (pc_q := 1) rfl rfl rfl ?_
                    refine pm_R_lo pm_M73 (pc_q := 2) rfl rfl rfl ?_
                    refine pm_R_op pm_M73 (pc_q := 3) (st_q := [.int 1, .int z219, .int z219]) rfl rfl rfl ?_
                    refine sf_R_iadd pm_M73 (pc_q := 4) rfl rfl B221 sf_k1 (by decide) (by decide) (fun z222 e223 B224 => ?_)
                    refine sf_R_imul pm_M73 (pc_q := 5) rfl rfl B221 B224 (by decide) (by decide) (by decide) (fun z225 e226 B227 => ?_)
                    refine pm_R_op pm_M73 (pc_q := 6) (st_q := [.int 2, .int z225]) rfl rfl rfl ?_
                    refine sf_R_idiv pm_M73 (pc_q := 7) rfl rfl B227 sf_k2 (by decide) (by decide) (fun z228 e229 B230 => ?_)
                    refine pm_R_lo pm_M73 (pc_q := 8) rfl rfl rfl ?_
                    refine sf_R_iadd pm_M73 (pc_q := 9) rfl rfl B230 sf_k0 (by decide) (by decide) (fun z231 e232 B233 => ?_)
                    refine pm_R_ret pm_M73 (r := some (.int z231)) rfl (pm_ret_i _) ?_
                    show pm_R _ 90 89 [.ref 16, .int a0, .int a1, .long a2, pm_no, .int a3, .ref l34, .ref l49, pm_no, pm_no, pm_no] [.int z231, .ref 34] _ _
                    refine pm_R_op pm_M90 (pc_q := 91) (st_q := [.int 6, .int z231, .ref 34]) rfl rfl rfl ?_
                    refine sf_R_imul pm_M90 (pc_q := 92) rfl rfl B233 sf_k6 (by decide) (by decide) (by decide) (fun z234 e235 B236 => ?_)
                    obtain ⟨f240, e241⟩ := T211.C 34 (by decide) (by decide)
                    obtain ⟨z237, ez238⟩ : ∃ y, f240 (Int32.toNatClampNeg z234) = y := ⟨_, rfl⟩
                    refine pm_R_lald pm_M90 (pc_q := 93) (v := z237) rfl e241 (by decide) (T211.lt (by decide)) (sf_in B236 (by decide) (by decide)) ez238 rfl ?_
                    refine pm_R_lo pm_M90 (pc_q := 95) (ls_q := [.ref 16, .int a0, .int a1, .long a2, pm_no, .int a3, .ref l34, .ref l49, .long z237, pm_no, pm_no]) (st_q := []) rfl rfl rfl ?_
                    refine pm_R_lo pm_M90 (pc_q := 96) rfl rfl rfl ?_
                    refine pm_R_lo pm_M90 (pc_q := 98) rfl rfl rfl ?_
                    refine sf_R_lcmp pm_M90 (pc_q := 99) rfl rfl (fun z243 e244 => ?_)
                    refine pm_R_ifc pm_M90 (t := 114) (pc_q := 102) rfl rfl rfl (fun c245 => ?_) (fun c245 => ?_)
                    · have B246 : sf_B (-2147483648) (-1) z243 := sf_ltL c245 (sf_any z243) sf_k0
                      have k247 := lf_lt e244 B246 (by decide)
                      have k248 := sf_lneB e244 B246 (by decide)
                      refine pm_R_lo pm_M90 (pc_q := 115) rfl rfl rfl ?_
                      refine pm_R_get pm_M90 (pc_q := 118) (v := .ref 33) (pm_q90_1 (Nat.le_of_ble_eq_true rfl)) rfl T211.e16 (by decide) (T211.lt (by decide)) rfl rfl ?_
                      refine pm_R_lo pm_M90 (pc_q := 119) (pm_q90_1 (Nat.le_of_ble_eq_true rfl)) rfl rfl ?_
                      refine pm_R_cv pm_M90 (pc_q := 122) (a := 33) (ra := [.long a2]) (rest := []) (ls_q := [.ref 33, .long a2, pm_no]) (pm_q90_1 (Nat.le_of_ble_eq_true rfl)) rfl (Or.inl rfl) pm_M91 T211.e33 rfl (by decide) (T211.lt (by decide)) rfl rfl (Nat.le_of_ble_eq_true rfl) rfl rfl ?_
                      refine pm_R_lo pm_M91 (pc_q := 1) rfl rfl rfl ?_
                      refine pm_R_op pm_M91 (pc_q := 2) (st_q := [.int (-1), .ref 33]) rfl rfl rfl ?_
                      refine cl_R_put33 G pm_M91 T211 (k := 14) (pc_q := 5) rfl rfl rfl (by decide) rfl rfl (sf_any _) rfl rfl rfl rfl rfl (fun h249 m252 em253 T250 F251 => ?_)
                      have F254 := F251.cl (ck := ck) T211.1
                      have F255 := F217.trans (N := 0) (S := 0) F254 (by decide) (by decide) (by decide)
                      have B256 : sf_B (-1) (-1) (m252 14) := by rw [em253]; exact sf_kn1
                      have W258 : rf_W [14, 15] m m252 := by rw [em253]; exact W218.put (by decide)
                      refine pm_R_lo pm_M91 (pc_q := 6) rfl rfl rfl ?_
                      refine pm_R_op pm_M91 (pc_q := 7) (st_q := [.int (-1), .ref 33]) rfl rfl rfl ?_
                      refine cl_R_put33 G pm_M91 T250 (k := 15) (pc_q := 10) rfl rfl rfl (by decide) rfl rfl (sf_any _) rfl rfl rfl rfl rfl (fun h259 m262 em263 T260 F261 => ?_)
                      have F264 := F261.cl (ck := ck) T250.1
                      have F265 := F255.trans (N := 0) (S := 0) F264 (by decide) (by decide) (by decide)
                      have B266 : sf_B (-1) (-1) (m262 14) := by rw [em263]; exact B256
                      have B267 : sf_B (-1) (-1) (m262 15) := by rw [em263]; exact sf_kn1
                      have W269 : rf_W [14, 15] m m262 := by rw [em263]; exact W258.put (by decide)
                      refine pm_R_lo pm_M91 (pc_q := 11) rfl rfl rfl ?_
                      refine pm_R_op pm_M91 (pc_q := 12) (st_q := [.int 0, .ref 33]) rfl rfl rfl ?_
                      refine pm_R_op pm_M91 (pc_q := 13) (st_q := [.int 0, .int 0, .ref 33]) rfl rfl rfl ?_
                      refine pm_R_lo pm_M91 (pc_q := 14) rfl rfl rfl ?_
                      refine pm_R_get pm_M91 (pc_q := 17) (v := .ref l49) rfl rfl T260.e33 (by decide) (T260.lt (by decide)) (by show some (va_rf (o214 2)) = _; rw [X216]; rfl) rfl ?_
                      refine pm_R_get pm_M91 (pc_q := 20) (v := .int (Int32.ofNat n193)) rfl rfl (T260.im hk51 (by decide) (by decide) eE197) (G.ge hk51 (by decide)) (T260.al hk51 (by decide)) rfl rfl ?_
                      refine pm_R_op pm_M91 (pc_q := 21) (st_q := [.int 1, .int (Int32.ofNat n193), .int 0, .int 0, .ref 33]) rfl rfl rfl ?_
                      refine sf_R_isubV pm_M91 (pc_q := 22) rfl rfl (sf_ofB1 h196 h195 (by decide)) sf_k1 (by decide) (by decide) e220 ?_
                      refine pm_R_lo pm_M91 (pc_q := 23) rfl rfl rfl ?_
                      refine pm_R_op pm_M91 (pc_q := 24) (st_q := [.int 1, .long a2, .int z219, .int 0, .int 0, .ref 33]) rfl rfl rfl ?_
                      refine pm_R_cv pm_M91 (pc_q := 27) (a := 33) (ra := [.int 1, .long a2, .int z219, .int 0, .int 0]) (rest := []) (ls_q := [.ref 33, .int 0, .int 0, .int z219, .long a2, pm_no, .int 1, pm_no, pm_no, pm_no, pm_no, pm_no, pm_no, pm_no, pm_no, pm_no, pm_no, pm_no]) rfl rfl (Or.inl rfl) pm_M92 T260.e33 rfl (by decide) (T260.lt (by decide)) rfl rfl (Nat.le_of_ble_eq_true rfl) rfl rfl ?_
                      refine cl_c92_1 (d := d + 0) G T260 (sf_weak sf_k0 (by decide) (by decide)) (sf_weak sf_k0 (by decide) (by decide)) B221 X215 X216 eE197 (Int32.lt_iff_toInt_lt.mpr (cl_aux16 _ (sf_ofB1 h196 h195 (by decide)).1)) (Int32.lt_iff_toInt_lt.mpr (cl_aux17 _ _ e220)) (fun r270 m272 h273 T274 F275 W276 => ?_)
                      have F277 := F265.trans (N := 0) (S := 0) F275 (by decide) (by decide) (by decide)
                      have W278 : rf_W [14, 15] m m272 := W269.trans W276 (by decide)
                      show pm_R _ 91 27 [.ref 33, .long a2, pm_no] [.int r270] _ _
                      refine pm_R_ret pm_M91 (r := some (.int r270)) rfl (pm_ret_i _) ?_
                      show pm_R _ 90 122 [.ref 16, .int a0, .int a1, .long a2, pm_no, .int a3, .ref l34, .ref l49, .long z237, pm_no, pm_no] [.int r270] _ _
                      refine pm_R_lo pm_M90 (pc_q := 124) (ls_q := [.ref 16, .int a0, .int a1, .long a2, pm_no, .int a3, .ref l34, .ref l49, .long z237, pm_no, .int r270]) (st_q := []) (pm_q90_1 (Nat.le_of_ble_eq_true rfl)) rfl rfl ?_
                      refine pm_R_lo pm_M90 (pc_q := 126) (pm_q90_1 (Nat.le_of_ble_eq_true rfl)) rfl rfl ?_
                      by_cases c279 : a3 < 0
                      · refine pm_R_tswD pm_M90 (pc_q := 171) (pm_q90_1 (Nat.le_of_ble_eq_true rfl)) (Or.inl (Int32.lt_iff_toInt_lt.mp c279)) rfl ?_
                        have B280 : sf_B 3 (-1) a3 := sf_ltL c279 B189 sf_k0
                        refine pm_R_lo pm_M90 (pc_q := 172) (pm_q90_1 (Nat.le_of_ble_eq_true rfl)) rfl rfl ?_
                        refine pm_R_get pm_M90 (pc_q := 175) (v := .ref 33) (pm_q90_1 (Nat.le_of_ble_eq_true rfl)) rfl T274.e16 (by decide) (T274.lt (by decide)) rfl rfl ?_
                        refine pm_R_get pm_M90 (pc_q := 178) (v := .ref 35) (pm_q90_1 (Nat.le_of_ble_eq_true rfl)) rfl T274.e33 (by decide) (T274.lt (by decide)) rfl rfl ?_
                        refine pm_R_lo pm_M90 (pc_q := 180) (pm_q90_1 (Nat.le_of_ble_eq_true rfl)) rfl rfl ?_
                        refine pm_R_op pm_M90 (pc_q := 182) (st_q := [.int 10, .int a3, .ref 35]) (pm_q90_1 (Nat.le_of_ble_eq_true rfl)) rfl rfl ?_
                        refine sf_R_isubV pm_M90 (pc_q := 183) (pm_q90_1 (Nat.le_of_ble_eq_true rfl)) rfl B189 sf_k10 (by decide) (by decide) e191 ?_
                        obtain ⟨f284, e285⟩ := T274.C 35 (by decide) (by decide)
                        obtain ⟨z281, ez282⟩ : ∃ y, f284 (Int32.toNatClampNeg z190) = y := ⟨_, rfl⟩
                        refine pm_R_iald pm_M90 (pc_q := 184) (v := z281) (pm_q90_1 (Nat.le_of_ble_eq_true rfl)) e285 (T274.lt (by decide)) (sf_in B206 (by decide) (by decide)) ez282 rfl ?_
                        exact pm_R_ret pm_M90 (r := some (.int z281)) (pm_q90_1 (Nat.le_of_ble_eq_true rfl)) (pm_ret_i _) (K z281 m272 o214 h273 T274 F277 W278)
                      skip
                      by_cases c287 : 2 < a3
                      · refine pm_R_tswD pm_M90 (pc_q := 171) (pm_q90_1 (Nat.le_of_ble_eq_true rfl)) (Or.inr (Int32.lt_iff_toInt_lt.mp c287)) rfl ?_
                        skip
                        refine pm_R_lo pm_M90 (pc_q := 172) (pm_q90_1 (Nat.le_of_ble_eq_true rfl)) rfl rfl ?_
                        refine pm_R_get pm_M90 (pc_q := 175) (v := .ref 33) (pm_q90_1 (Nat.le_of_ble_eq_true rfl)) rfl T274.e16 (by decide) (T274.lt (by decide)) rfl rfl ?_
                        refine pm_R_get pm_M90 (pc_q := 178) (v := .ref 35) (pm_q90_1 (Nat.le_of_ble_eq_true rfl)) rfl T274.e33 (by decide) (T274.lt (by decide)) rfl rfl ?_
                        refine pm_R_lo pm_M90 (pc_q := 180) (pm_q90_1 (Nat.le_of_ble_eq_true rfl)) rfl rfl ?_
                        refine pm_R_op pm_M90 (pc_q := 182) (st_q := [.int 10, .int a3, .ref 35]) (pm_q90_1 (Nat.le_of_ble_eq_true rfl)) rfl rfl ?_
                        refine sf_R_isubV pm_M90 (pc_q := 183) (pm_q90_1 (Nat.le_of_ble_eq_true rfl)) rfl B189 sf_k10 (by decide) (by decide) e191 ?_
                        obtain ⟨f291, e292⟩ := T274.C 35 (by decide) (by decide)
                        obtain ⟨z288, ez289⟩ : ∃ y, f291 (Int32.toNatClampNeg z190) = y := ⟨_, rfl⟩
                        refine pm_R_iald pm_M90 (pc_q := 184) (v := z288) (pm_q90_1 (Nat.le_of_ble_eq_true rfl)) e292 (T274.lt (by decide)) (sf_in B206 (by decide) (by decide)) ez289 rfl ?_
                        exact pm_R_ret pm_M90 (r := some (.int z288)) (pm_q90_1 (Nat.le_of_ble_eq_true rfl)) (pm_ret_i _) (K z288 m272 o214 h273 T274 F277 W278)
                      have B294 : sf_B 3 2 a3 := sf_leL (Int32.not_lt.mp c287) B189 sf_k2
                      exact absurd (Int.le_trans B294.1 B294.2) (by decide)
                    · have B295 : sf_B 0 2147483647 z243 := sf_leR (Int32.not_lt.mp c245) sf_k0 (sf_any z243)
                      have k296 := lf_ge e244 B295 (by decide)
                      refine pm_R_lo pm_M90 (pc_q := 104) rfl rfl rfl ?_
                      refine pm_R_ldc2 pm_M90 (pc_q := 107) rfl rfl rfl ?_
                      refine sf_R_lcmp pm_M90 (pc_q := 108) rfl rfl (fun z297 e298 => ?_)
                      refine pm_R_ifc pm_M90 (t := 114) (pc_q := 111) rfl rfl rfl (fun c299 => ?_) (fun c299 => ?_)
                      · have B300 : sf_B 0 0 z297 := sf_eqL c299 sf_k0
                        have B301 : lf_B (-1) (-1) z237 := lf_eqB e298 B300 (⟨by decide, by decide⟩ : lf_B (-1) (-1) (-1))
                        refine pm_R_lo pm_M90 (pc_q := 115) rfl rfl rfl ?_
                        refine pm_R_get pm_M90 (pc_q := 118) (v := .ref 33) (pm_q90_1 (Nat.le_of_ble_eq_true rfl)) rfl T211.e16 (by decide) (T211.lt (by decide)) rfl rfl ?_
                        refine pm_R_lo pm_M90 (pc_q := 119) (pm_q90_1 (Nat.le_of_ble_eq_true rfl)) rfl rfl ?_
                        refine pm_R_cv pm_M90 (pc_q := 122) (a := 33) (ra := [.long a2]) (rest := []) (ls_q := [.ref 33, .long a2, pm_no]) (pm_q90_1 (Nat.le_of_ble_eq_true rfl)) rfl (Or.inl rfl) pm_M91 T211.e33 rfl (by decide) (T211.lt (by decide)) rfl rfl (Nat.le_of_ble_eq_true rfl) rfl rfl ?_
                        refine pm_R_lo pm_M91 (pc_q := 1) rfl rfl rfl ?_
                        refine pm_R_op pm_M91 (pc_q := 2) (st_q := [.int (-1), .ref 33]) rfl rfl rfl ?_
                        refine cl_R_put33 G pm_M91 T211 (k := 14) (pc_q := 5) rfl rfl rfl (by decide) rfl rfl (sf_any _) rfl rfl rfl rfl rfl (fun h302 m305 em306 T303 F304 => ?_)
                        have F307 := F304.cl (ck := ck) T211.1
                        have F308 := F217.trans (N := 0) (S := 0) F307 (by decide) (by decide) (by decide)
                        have B309 : sf_B (-1) (-1) (m305 14) := by rw [em306]; exact sf_kn1
                        have W311 : rf_W [14, 15] m m305 := by rw [em306]; exact W218.put (by decide)
                        refine pm_R_lo pm_M91 (pc_q := 6) rfl rfl rfl ?_
                        refine pm_R_op pm_M91 (pc_q := 7) (st_q := [.int (-1), .ref 33]) rfl rfl rfl ?_
                        refine cl_R_put33 G pm_M91 T303 (k := 15) (pc_q := 10) rfl rfl rfl (by decide) rfl rfl (sf_any _) rfl rfl rfl rfl rfl (fun h312 m315 em316 T313 F314 => ?_)
                        have F317 := F314.cl (ck := ck) T303.1
                        have F318 := F308.trans (N := 0) (S := 0) F317 (by decide) (by decide) (by decide)
                        have B319 : sf_B (-1) (-1) (m315 14) := by rw [em316]; exact B309
                        have B320 : sf_B (-1) (-1) (m315 15) := by rw [em316]; exact sf_kn1
                        have W322 : rf_W [14, 15] m m315 := by rw [em316]; exact W311.put (by decide)
                        refine pm_R_lo pm_M91 (pc_q := 11) rfl rfl rfl ?_
                        refine pm_R_op pm_M91 (pc_q := 12) (st_q := [.int 0, .ref 33]) rfl rfl rfl ?_
                        refine pm_R_op pm_M91 (pc_q := 13) (st_q := [.int 0, .int 0, .ref 33]) rfl rfl rfl ?_
                        refine pm_R_lo pm_M91 (pc_q := 14) rfl rfl rfl ?_
                        refine pm_R_get pm_M91 (pc_q := 17) (v := .ref l49) rfl rfl T313.e33 (by decide) (T313.lt (by decide)) (by show some (va_rf (o214 2)) = _; rw [X216]; rfl) rfl ?_
                        refine pm_R_get pm_M91 (pc_q := 20) (v := .int (Int32.ofNat n193)) rfl rfl (T313.im hk51 (by decide) (by decide) eE197) (G.ge hk51 (by decide)) (T313.al hk51 (by decide)) rfl rfl ?_
                        refine pm_R_op pm_M91 (pc_q := 21) (st_q := [.int 1, .int (Int32.ofNat n193), .int 0, .int 0, .ref 33]) rfl rfl rfl ?_
                        refine sf_R_isubV pm_M91 (pc_q := 22) rfl rfl (sf_ofB1 h196 h195 (by decide)) sf_k1 (by decide) (by decide) e220 ?_
                        refine pm_R_lo pm_M91 (pc_q := 23) rfl rfl rfl ?_
                        refine pm_R_op pm_M91 (pc_q := 24) (st_q := [.int 1, .long a2, .int z219, .int 0, .int 0, .ref 33]) rfl rfl rfl ?_
                        refine pm_R_cv pm_M91 (pc_q := 27) (a := 33) (ra := [.int 1, .long a2, .int z219, .int 0, .int 0]) (rest := []) (ls_q := [.ref 33, .int 0, .int 0, .int z219, .long a2, pm_no, .int 1, pm_no, pm_no, pm_no, pm_no, pm_no, pm_no, pm_no, pm_no, pm_no, pm_no, pm_no]) rfl rfl (Or.inl rfl) pm_M92 T313.e33 rfl (by decide) (T313.lt (by decide)) rfl rfl (Nat.le_of_ble_eq_true rfl) rfl rfl ?_
                        refine cl_c92_1 (d := d + 0) G T313 (sf_weak sf_k0 (by decide) (by decide)) (sf_weak sf_k0 (by decide) (by decide)) B221 X215 X216 eE197 (Int32.lt_iff_toInt_lt.mpr (cl_aux16 _ (sf_ofB1 h196 h195 (by decide)).1)) (Int32.lt_iff_toInt_lt.mpr (cl_aux17 _ _ e220)) (fun r323 m325 h326 T327 F328 W329 => ?_)
                        have F330 := F318.trans (N := 0) (S := 0) F328 (by decide) (by decide) (by decide)
                        have W331 : rf_W [14, 15] m m325 := W322.trans W329 (by decide)
                        show pm_R _ 91 27 [.ref 33, .long a2, pm_no] [.int r323] _ _
                        refine pm_R_ret pm_M91 (r := some (.int r323)) rfl (pm_ret_i _) ?_
                        show pm_R _ 90 122 [.ref 16, .int a0, .int a1, .long a2, pm_no, .int a3, .ref l34, .ref l49, .long z237, pm_no, pm_no] [.int r323] _ _
                        refine pm_R_lo pm_M90 (pc_q := 124) (ls_q := [.ref 16, .int a0, .int a1, .long a2, pm_no, .int a3, .ref l34, .ref l49, .long z237, pm_no, .int r323]) (st_q := []) (pm_q90_1 (Nat.le_of_ble_eq_true rfl)) rfl rfl ?_
                        refine pm_R_lo pm_M90 (pc_q := 126) (pm_q90_1 (Nat.le_of_ble_eq_true rfl)) rfl rfl ?_
                        by_cases c332 : a3 < 0
                        · refine pm_R_tswD pm_M90 (pc_q := 171) (pm_q90_1 (Nat.le_of_ble_eq_true rfl)) (Or.inl (Int32.lt_iff_toInt_lt.mp c332)) rfl ?_
                          have B333 : sf_B 3 (-1) a3 := sf_ltL c332 B189 sf_k0
                          refine pm_R_lo pm_M90 (pc_q := 172) (pm_q90_1 (Nat.le_of_ble_eq_true rfl)) rfl rfl ?_
                          refine pm_R_get pm_M90 (pc_q := 175) (v := .ref 33) (pm_q90_1 (Nat.le_of_ble_eq_true rfl)) rfl T327.e16 (by decide) (T327.lt (by decide)) rfl rfl ?_
                          refine pm_R_get pm_M90 (pc_q := 178) (v := .ref 35) (pm_q90_1 (Nat.le_of_ble_eq_true rfl)) rfl T327.e33 (by decide) (T327.lt (by decide)) rfl rfl ?_
                          refine pm_R_lo pm_M90 (pc_q := 180) (pm_q90_1 (Nat.le_of_ble_eq_true rfl)) rfl rfl ?_
                          refine pm_R_op pm_M90 (pc_q := 182) (st_q := [.int 10, .int a3, .ref 35]) (pm_q90_1 (Nat.le_of_ble_eq_true rfl)) rfl rfl ?_
                          refine sf_R_isubV pm_M90 (pc_q := 183) (pm_q90_1 (Nat.le_of_ble_eq_true rfl)) rfl B189 sf_k10 (by decide) (by decide) e191 ?_
                          obtain ⟨f337, e338⟩ := T327.C 35 (by decide) (by decide)
                          obtain ⟨z334, ez335⟩ : ∃ y, f337 (Int32.toNatClampNeg z190) = y := ⟨_, rfl⟩
                          refine pm_R_iald pm_M90 (pc_q := 184) (v := z334) (pm_q90_1 (Nat.le_of_ble_eq_true rfl)) e338 (T327.lt (by decide)) (sf_in B206 (by decide) (by decide)) ez335 rfl ?_
                          exact pm_R_ret pm_M90 (r := some (.int z334)) (pm_q90_1 (Nat.le_of_ble_eq_true rfl)) (pm_ret_i _) (K z334 m325 o214 h326 T327 F330 W331)
                        skip
                        by_cases c340 : 2 < a3
                        · refine pm_R_tswD pm_M90 (pc_q := 171) (pm_q90_1 (Nat.le_of_ble_eq_true rfl)) (Or.inr (Int32.lt_iff_toInt_lt.mp c340)) rfl ?_
                          skip
                          refine pm_R_lo pm_M90 (pc_q := 172) (pm_q90_1 (Nat.le_of_ble_eq_true rfl)) rfl rfl ?_
                          refine pm_R_get pm_M90 (pc_q := 175) (v := .ref 33) (pm_q90_1 (Nat.le_of_ble_eq_true rfl)) rfl T327.e16 (by decide) (T327.lt (by decide)) rfl rfl ?_
                          refine pm_R_get pm_M90 (pc_q := 178) (v := .ref 35) (pm_q90_1 (Nat.le_of_ble_eq_true rfl)) rfl T327.e33 (by decide) (T327.lt (by decide)) rfl rfl ?_
                          refine pm_R_lo pm_M90 (pc_q := 180) (pm_q90_1 (Nat.le_of_ble_eq_true rfl)) rfl rfl ?_
                          refine pm_R_op pm_M90 (pc_q := 182) (st_q := [.int 10, .int a3, .ref 35]) (pm_q90_1 (Nat.le_of_ble_eq_true rfl)) rfl rfl ?_
                          refine sf_R_isubV pm_M90 (pc_q := 183) (pm_q90_1 (Nat.le_of_ble_eq_true rfl)) rfl B189 sf_k10 (by decide) (by decide) e191 ?_
                          obtain ⟨f344, e345⟩ := T327.C 35 (by decide) (by decide)
                          obtain ⟨z341, ez342⟩ : ∃ y, f344 (Int32.toNatClampNeg z190) = y := ⟨_, rfl⟩
                          refine pm_R_iald pm_M90 (pc_q := 184) (v := z341) (pm_q90_1 (Nat.le_of_ble_eq_true rfl)) e345 (T327.lt (by decide)) (sf_in B206 (by decide) (by decide)) ez342 rfl ?_
                          exact pm_R_ret pm_M90 (r := some (.int z341)) (pm_q90_1 (Nat.le_of_ble_eq_true rfl)) (pm_ret_i _) (K z341 m325 o214 h326 T327 F330 W331)
                        have B347 : sf_B 3 2 a3 := sf_leL (Int32.not_lt.mp c340) B189 sf_k2
                        exact absurd (Int.le_trans B347.1 B347.2) (by decide)
                      · have k348 := sf_lneC e298 c299
                        refine pm_R_op pm_M90 (pc_q := 113) (st_q := [.int (-2)]) rfl rfl rfl ?_
                        exact pm_R_ret pm_M90 (r := some (.int (-2))) rfl rfl (K (-2) m209 o214 h210 T211 F217 W218)
          · have B349 : sf_B (-2147483648) (-1) z52 := sf_ltL (Int32.not_le.mp c54) (sf_any z52) sf_k0
            have k350 := lf_lt e53 B349 (by decide)
            have k351 := sf_lneB e53 B349 (by decide)
            refine pm_R_op pm_M90 (pc_q := 32) (st_q := [.int (-2)]) rfl rfl rfl ?_
            exact pm_R_ret pm_M90 (r := some (.int (-2))) rfl rfl (K (-2) m o h T (cl_F.refl (ck := ck) (A := [33, 34, 35]) (n := 0) (s := 0) T.1) (rf_W.refl [14, 15] m))
        · skip
          refine pm_R_op pm_M66 (pc_q := 18) (st_q := [.null]) rfl rfl rfl ?_
          refine pm_R_br pm_M66 (pc_q := 30) rfl rfl ?_
          refine pm_R_ret pm_M66 (r := some (.null)) rfl rfl ?_
          show pm_R _ 90 12 [.ref 16, .int a0, .int a1, .long a2, pm_no, .int a3, .ref l34, pm_no, pm_no, pm_no, pm_no] [.null] _ _
          refine pm_R_lo pm_M90 (pc_q := 14) (ls_q := [.ref 16, .int a0, .int a1, .long a2, pm_no, .int a3, .ref l34, .null, pm_no, pm_no, pm_no]) (st_q := []) rfl rfl rfl ?_
          refine pm_R_lo pm_M90 (pc_q := 16) rfl rfl rfl ?_
          refine pm_R_br pm_M90 (pc_q := 19) rfl rfl ?_
          refine pm_R_lo pm_M90 (pc_q := 21) rfl rfl rfl ?_
          refine pm_R_br pm_M90 (pc_q := 30) rfl rfl ?_
          refine pm_R_op pm_M90 (pc_q := 32) (st_q := [.int (-2)]) rfl rfl rfl ?_
          exact pm_R_ret pm_M90 (r := some (.int (-2))) rfl rfl (K (-2) m o h T (cl_F.refl (ck := ck) (A := [33, 34, 35]) (n := 0) (s := 0) T.1) (rf_W.refl [14, 15] m))
    · skip
      refine pm_R_op pm_M62 (pc_q := 18) (st_q := [.null]) rfl rfl rfl ?_
      refine pm_R_br pm_M62 (pc_q := 30) rfl rfl ?_
      refine pm_R_ret pm_M62 (r := some (.null)) rfl rfl ?_
      show pm_R _ 90 5 [.ref 16, .int a0, .int a1, .long a2, pm_no, .int a3, pm_no, pm_no, pm_no, pm_no, pm_no] [.null] _ _
      refine pm_R_lo pm_M90 (pc_q := 7) (ls_q := [.ref 16, .int a0, .int a1, .long a2, pm_no, .int a3, .null, pm_no, pm_no, pm_no, pm_no]) (st_q := []) rfl rfl rfl ?_
      refine pm_R_lo pm_M90 (pc_q := 8) rfl rfl rfl ?_
      refine pm_R_lo pm_M90 (pc_q := 9) rfl rfl rfl ?_
      refine pm_R_cv pm_M90 (pc_q := 12) (a := 16) (ra := [.int a1]) (rest := []) (ls_q := [.ref 16, .int a1]) rfl rfl (Or.inl rfl) pm_M66 T.e16 rfl (by decide) (T.lt (by decide)) rfl rfl (Nat.le_of_ble_eq_true rfl) rfl rfl ?_
      refine pm_R_lo pm_M66 (pc_q := 1) rfl rfl rfl ?_
      refine pm_R_ifc pm_M66 (t := 17) (pc_q := 4) rfl rfl rfl (fun c352 => ?_) (fun c352 => ?_)
      · have B353 : sf_B (-2147483648) (-1) a1 := sf_ltL c352 (sf_any a1) sf_k0
        refine pm_R_op pm_M66 (pc_q := 18) (st_q := [.null]) rfl rfl rfl ?_
        refine pm_R_br pm_M66 (pc_q := 30) rfl rfl ?_
        refine pm_R_ret pm_M66 (r := some (.null)) rfl rfl ?_
        show pm_R _ 90 12 [.ref 16, .int a0, .int a1, .long a2, pm_no, .int a3, .null, pm_no, pm_no, pm_no, pm_no] [.null] _ _
        refine pm_R_lo pm_M90 (pc_q := 14) (ls_q := [.ref 16, .int a0, .int a1, .long a2, pm_no, .int a3, .null, .null, pm_no, pm_no, pm_no]) (st_q := []) rfl rfl rfl ?_
        refine pm_R_lo pm_M90 (pc_q := 16) rfl rfl rfl ?_
        refine pm_R_br pm_M90 (pc_q := 30) rfl rfl ?_
        refine pm_R_op pm_M90 (pc_q := 32) (st_q := [.int (-2)]) rfl rfl rfl ?_
        exact pm_R_ret pm_M90 (r := some (.int (-2))) rfl rfl (K (-2) m o h T (cl_F.refl (ck := ck) (A := [33, 34, 35]) (n := 0) (s := 0) T.1) (rf_W.refl [14, 15] m))
      · have B354 : sf_B 0 2147483647 a1 := sf_leR (Int32.not_lt.mp c352) sf_k0 (sf_any a1)
        refine pm_R_lo pm_M66 (pc_q := 5) rfl rfl rfl ?_
        refine pm_R_lo pm_M66 (pc_q := 6) rfl rfl rfl ?_
        refine pm_R_get pm_M66 (pc_q := 9) (v := .ref 17) rfl rfl T.e16 (by decide) (T.lt (by decide)) rfl rfl ?_
        refine pm_R_get pm_M66 (pc_q := 12) (v := .ref 23) rfl rfl T.e17 (by decide) (T.lt (by decide)) rfl rfl ?_
        refine pm_R_op pm_M66 (pc_q := 13) (st_q := [.int 1, .ref 23, .int a1]) rfl rfl rfl ?_
        obtain ⟨z355, ez356⟩ : ∃ y, f25 (Int32.toNatClampNeg 1) = y := ⟨_, rfl⟩
        have B357 : sf_B 0 3 z355 := ez356 ▸ (b27 1)
        refine pm_R_iald pm_M66 (pc_q := 14) (v := z355) rfl e26 (T.lt (by decide)) rfl ez356 rfl ?_
        refine pm_R_icmp pm_M66 (t := 21) (pc_q := 17) rfl rfl rfl (fun c358 => ?_) (fun c358 => ?_)
        · have B359 : sf_B 0 2 a1 := sf_ltL c358 B354 B357
          have B360 : sf_B 1 3 z355 := sf_ltR c358 B354 B357
          refine pm_R_lo pm_M66 (pc_q := 22) rfl rfl rfl ?_
          refine pm_R_get pm_M66 (pc_q := 25) (v := .ref 17) rfl rfl T.e16 (by decide) (T.lt (by decide)) rfl rfl ?_
          refine pm_R_get pm_M66 (pc_q := 28) (v := .ref 20) rfl rfl T.e17 (by decide) (T.lt (by decide)) rfl rfl ?_
          refine pm_R_lo pm_M66 (pc_q := 29) rfl rfl rfl ?_
          obtain ⟨f361, e362, b363⟩ := T.C 20 (by decide) (by decide)
          obtain ⟨l364, hx365⟩ := cl_there1 T e26 e362 ez356 c358 B359 (by decide)
          have hk366 := b363 _ _ hx365
          refine pm_R_aald pm_M66 (pc_q := 30) (v := .ref l364) rfl e362 (by decide) (by decide) (by decide) (T.lt (by decide)) (sf_in B359 (by decide) (by decide)) (by rw [hx365]; rfl) rfl ?_
          refine pm_R_ret pm_M66 (r := some (.ref l364)) rfl rfl ?_
          show pm_R _ 90 12 [.ref 16, .int a0, .int a1, .long a2, pm_no, .int a3, .null, pm_no, pm_no, pm_no, pm_no] [.ref l364] _ _
          refine pm_R_lo pm_M90 (pc_q := 14) (ls_q := [.ref 16, .int a0, .int a1, .long a2, pm_no, .int a3, .null, .ref l364, pm_no, pm_no, pm_no]) (st_q := []) rfl rfl rfl ?_
          refine pm_R_lo pm_M90 (pc_q := 16) rfl rfl rfl ?_
          refine pm_R_br pm_M90 (pc_q := 30) rfl rfl ?_
          refine pm_R_op pm_M90 (pc_q := 32) (st_q := [.int (-2)]) rfl rfl rfl ?_
          exact pm_R_ret pm_M90 (r := some (.int (-2))) rfl rfl (K (-2) m o h T (cl_F.refl (ck := ck) (A := [33, 34, 35]) (n := 0) (s := 0) T.1) (rf_W.refl [14, 15] m))
        · skip
          refine pm_R_op pm_M66 (pc_q := 18) (st_q := [.null]) rfl rfl rfl ?_
          refine pm_R_br pm_M66 (pc_q := 30) rfl rfl ?_
          refine pm_R_ret pm_M66 (r := some (.null)) rfl rfl ?_
          show pm_R _ 90 12 [.ref 16, .int a0, .int a1, .long a2, pm_no, .int a3, .null, pm_no, pm_no, pm_no, pm_no] [.null] _ _
          refine pm_R_lo pm_M90 (pc_q := 14) (ls_q := [.ref 16, .int a0, .int a1, .long a2, pm_no, .int a3, .null, .null, pm_no, pm_no, pm_no]) (st_q := []) rfl rfl rfl ?_
          refine pm_R_lo pm_M90 (pc_q := 16) rfl rfl rfl ?_
          refine pm_R_br pm_M90 (pc_q := 30) rfl rfl ?_
          refine pm_R_op pm_M90 (pc_q := 32) (st_q := [.int (-2)]) rfl rfl rfl ?_
          exact pm_R_ret pm_M90 (r := some (.int (-2))) rfl rfl (K (-2) m o h T (cl_F.refl (ck := ck) (A := [33, 34, 35]) (n := 0) (s := 0) T.1) (rf_W.refl [14, 15] m))

set_option maxRecDepth 100000 in
set_option maxHeartbeats 4000000 in
/-- SilentTable.doubt -/
theorem cl_c94 {d : Nat} {ck : cl_K} {E : Nat → pm_E} {m : Nat → Int32} {o : Nat → Option Nat} {h : pm_H} {Q : Option Value → pm_H → Prop} {a0 : Int32} {a1 : Int32} {a2 : Int32} (G : cl_G ck E) (T : cl_T ck E m o h)  (K : ∀ (r : Int32) (m_q : Nat → Int32) (o_q : Nat → Option Nat) (h_q : pm_H), cl_T ck E m_q o_q h_q → cl_F ck [33, 34, 36] 0 0 h h_q → rf_W [] m m_q → Q (some (.int r)) h_q) : pm_R (d + 4) 94 0 [.ref 16, .int a0, .int a1, .int a2, pm_no, pm_no] [] h Q := by
  refine pm_R_lo pm_M94 (pc_q := 1) rfl rfl rfl ?_
  refine pm_R_lo pm_M94 (pc_q := 2) rfl rfl rfl ?_
  refine pm_R_cv pm_M94 (pc_q := 5) (a := 16) (ra := [.int a0]) (rest := []) (ls_q := [.ref 16, .int a0]) rfl rfl (Or.inl rfl) pm_M62 T.e16 rfl (by decide) (T.lt (by decide)) rfl rfl (Nat.le_of_ble_eq_true rfl) rfl rfl ?_
  refine pm_R_lo pm_M62 (pc_q := 1) rfl rfl rfl ?_
  refine pm_R_ifc pm_M62 (t := 17) (pc_q := 4) rfl rfl rfl (fun c1 => ?_) (fun c1 => ?_)
  · have B2 : sf_B (-2147483648) (-1) a0 := sf_ltL c1 (sf_any a0) sf_k0
    refine pm_R_op pm_M62 (pc_q := 18) (st_q := [.null]) rfl rfl rfl ?_
    refine pm_R_br pm_M62 (pc_q := 30) rfl rfl ?_
    refine pm_R_ret pm_M62 (r := some (.null)) rfl rfl ?_
    show pm_R _ 94 5 [.ref 16, .int a0, .int a1, .int a2, pm_no, pm_no] [.null] _ _
    refine pm_R_lo pm_M94 (pc_q := 7) (ls_q := [.ref 16, .int a0, .int a1, .int a2, .null, pm_no]) (st_q := []) rfl rfl rfl ?_
    refine pm_R_lo pm_M94 (pc_q := 8) rfl rfl rfl ?_
    refine pm_R_lo pm_M94 (pc_q := 9) rfl rfl rfl ?_
    refine pm_R_cv pm_M94 (pc_q := 12) (a := 16) (ra := [.int a1]) (rest := []) (ls_q := [.ref 16, .int a1]) rfl rfl (Or.inl rfl) pm_M66 T.e16 rfl (by decide) (T.lt (by decide)) rfl rfl (Nat.le_of_ble_eq_true rfl) rfl rfl ?_
    refine pm_R_lo pm_M66 (pc_q := 1) rfl rfl rfl ?_
    refine pm_R_ifc pm_M66 (t := 17) (pc_q := 4) rfl rfl rfl (fun c3 => ?_) (fun c3 => ?_)
    · have B4 : sf_B (-2147483648) (-1) a1 := sf_ltL c3 (sf_any a1) sf_k0
      refine pm_R_op pm_M66 (pc_q := 18) (st_q := [.null]) rfl rfl rfl ?_
      refine pm_R_br pm_M66 (pc_q := 30) rfl rfl ?_
      refine pm_R_ret pm_M66 (r := some (.null)) rfl rfl ?_
      show pm_R _ 94 12 [.ref 16, .int a0, .int a1, .int a2, .null, pm_no] [.null] _ _
      refine pm_R_lo pm_M94 (pc_q := 14) (ls_q := [.ref 16, .int a0, .int a1, .int a2, .null, .null]) (st_q := []) rfl rfl rfl ?_
      refine pm_R_lo pm_M94 (pc_q := 16) rfl rfl rfl ?_
      refine pm_R_br pm_M94 (pc_q := 33) rfl rfl ?_
      refine pm_R_op pm_M94 (pc_q := 34) (st_q := [.int (-1)]) rfl rfl rfl ?_
      exact pm_R_ret pm_M94 (r := some (.int (-1))) rfl rfl (K (-1) m o h T (cl_F.refl (ck := ck) (A := [33, 34, 36]) (n := 0) (s := 0) T.1) (rf_W.refl [] m))
    · have B5 : sf_B 0 2147483647 a1 := sf_leR (Int32.not_lt.mp c3) sf_k0 (sf_any a1)
      refine pm_R_lo pm_M66 (pc_q := 5) rfl rfl rfl ?_
      refine pm_R_lo pm_M66 (pc_q := 6) rfl rfl rfl ?_
      refine pm_R_get pm_M66 (pc_q := 9) (v := .ref 17) rfl rfl T.e16 (by decide) (T.lt (by decide)) rfl rfl ?_
      refine pm_R_get pm_M66 (pc_q := 12) (v := .ref 23) rfl rfl T.e17 (by decide) (T.lt (by decide)) rfl rfl ?_
      refine pm_R_op pm_M66 (pc_q := 13) (st_q := [.int 1, .ref 23, .int a1]) rfl rfl rfl ?_
      obtain ⟨f9, e10, b11⟩ := T.C 23 (by decide) (by decide)
      obtain ⟨z6, ez7⟩ : ∃ y, f9 (Int32.toNatClampNeg 1) = y := ⟨_, rfl⟩
      have B8 : sf_B 0 3 z6 := ez7 ▸ (b11 1)
      refine pm_R_iald pm_M66 (pc_q := 14) (v := z6) rfl e10 (T.lt (by decide)) rfl ez7 rfl ?_
      refine pm_R_icmp pm_M66 (t := 21) (pc_q := 17) rfl rfl rfl (fun c12 => ?_) (fun c12 => ?_)
      · have B13 : sf_B 0 2 a1 := sf_ltL c12 B5 B8
        have B14 : sf_B 1 3 z6 := sf_ltR c12 B5 B8
        refine pm_R_lo pm_M66 (pc_q := 22) rfl rfl rfl ?_
        refine pm_R_get pm_M66 (pc_q := 25) (v := .ref 17) rfl rfl T.e16 (by decide) (T.lt (by decide)) rfl rfl ?_
        refine pm_R_get pm_M66 (pc_q := 28) (v := .ref 20) rfl rfl T.e17 (by decide) (T.lt (by decide)) rfl rfl ?_
        refine pm_R_lo pm_M66 (pc_q := 29) rfl rfl rfl ?_
        obtain ⟨f15, e16, b17⟩ := T.C 20 (by decide) (by decide)
        obtain ⟨l18, hx19⟩ := cl_there1 T e10 e16 ez7 c12 B13 (by decide)
        have hk20 := b17 _ _ hx19
        refine pm_R_aald pm_M66 (pc_q := 30) (v := .ref l18) rfl e16 (by decide) (by decide) (by decide) (T.lt (by decide)) (sf_in B13 (by decide) (by decide)) (by rw [hx19]; rfl) rfl ?_
        refine pm_R_ret pm_M66 (r := some (.ref l18)) rfl rfl ?_
        show pm_R _ 94 12 [.ref 16, .int a0, .int a1, .int a2, .null, pm_no] [.ref l18] _ _
        refine pm_R_lo pm_M94 (pc_q := 14) (ls_q := [.ref 16, .int a0, .int a1, .int a2, .null, .ref l18]) (st_q := []) rfl rfl rfl ?_
        refine pm_R_lo pm_M94 (pc_q := 16) rfl rfl rfl ?_
        refine pm_R_br pm_M94 (pc_q := 33) rfl rfl ?_
        refine pm_R_op pm_M94 (pc_q := 34) (st_q := [.int (-1)]) rfl rfl rfl ?_
        exact pm_R_ret pm_M94 (r := some (.int (-1))) rfl rfl (K (-1) m o h T (cl_F.refl (ck := ck) (A := [33, 34, 36]) (n := 0) (s := 0) T.1) (rf_W.refl [] m))
      · skip
        refine pm_R_op pm_M66 (pc_q := 18) (st_q := [.null]) rfl rfl rfl ?_
        refine pm_R_br pm_M66 (pc_q := 30) rfl rfl ?_
        refine pm_R_ret pm_M66 (r := some (.null)) rfl rfl ?_
        show pm_R _ 94 12 [.ref 16, .int a0, .int a1, .int a2, .null, pm_no] [.null] _ _
        refine pm_R_lo pm_M94 (pc_q := 14) (ls_q := [.ref 16, .int a0, .int a1, .int a2, .null, .null]) (st_q := []) rfl rfl rfl ?_
        refine pm_R_lo pm_M94 (pc_q := 16) rfl rfl rfl ?_
        refine pm_R_br pm_M94 (pc_q := 33) rfl rfl ?_
        refine pm_R_op pm_M94 (pc_q := 34) (st_q := [.int (-1)]) rfl rfl rfl ?_
        exact pm_R_ret pm_M94 (r := some (.int (-1))) rfl rfl (K (-1) m o h T (cl_F.refl (ck := ck) (A := [33, 34, 36]) (n := 0) (s := 0) T.1) (rf_W.refl [] m))
  · have B21 : sf_B 0 2147483647 a0 := sf_leR (Int32.not_lt.mp c1) sf_k0 (sf_any a0)
    refine pm_R_lo pm_M62 (pc_q := 5) rfl rfl rfl ?_
    refine pm_R_lo pm_M62 (pc_q := 6) rfl rfl rfl ?_
    refine pm_R_get pm_M62 (pc_q := 9) (v := .ref 17) rfl rfl T.e16 (by decide) (T.lt (by decide)) rfl rfl ?_
    refine pm_R_get pm_M62 (pc_q := 12) (v := .ref 23) rfl rfl T.e17 (by decide) (T.lt (by decide)) rfl rfl ?_
    refine pm_R_op pm_M62 (pc_q := 13) (st_q := [.int 0, .ref 23, .int a0]) rfl rfl rfl ?_
    obtain ⟨f25, e26, b27⟩ := T.C 23 (by decide) (by decide)
    obtain ⟨z22, ez23⟩ : ∃ y, f25 (Int32.toNatClampNeg 0) = y := ⟨_, rfl⟩
    have B24 : sf_B 0 2 z22 := ez23 ▸ (b27 0)
    refine pm_R_iald pm_M62 (pc_q := 14) (v := z22) rfl e26 (T.lt (by decide)) rfl ez23 rfl ?_
    refine pm_R_icmp pm_M62 (t := 21) (pc_q := 17) rfl rfl rfl (fun c28 => ?_) (fun c28 => ?_)
    · have B29 : sf_B 0 1 a0 := sf_ltL c28 B21 B24
      have B30 : sf_B 1 2 z22 := sf_ltR c28 B21 B24
      refine pm_R_lo pm_M62 (pc_q := 22) rfl rfl rfl ?_
      refine pm_R_get pm_M62 (pc_q := 25) (v := .ref 17) rfl rfl T.e16 (by decide) (T.lt (by decide)) rfl rfl ?_
      refine pm_R_get pm_M62 (pc_q := 28) (v := .ref 19) rfl rfl T.e17 (by decide) (T.lt (by decide)) rfl rfl ?_
      refine pm_R_lo pm_M62 (pc_q := 29) rfl rfl rfl ?_
      obtain ⟨f31, e32, b33⟩ := T.C 19 (by decide) (by decide)
      obtain ⟨l34, hx35⟩ := cl_there0 T e26 e32 ez23 c28 B29 (by decide)
      have hk36 := b33 _ _ hx35
      refine pm_R_aald pm_M62 (pc_q := 30) (v := .ref l34) rfl e32 (by decide) (by decide) (by decide) (T.lt (by decide)) (sf_in B29 (by decide) (by decide)) (by rw [hx35]; rfl) rfl ?_
      refine pm_R_ret pm_M62 (r := some (.ref l34)) rfl rfl ?_
      show pm_R _ 94 5 [.ref 16, .int a0, .int a1, .int a2, pm_no, pm_no] [.ref l34] _ _
      refine pm_R_lo pm_M94 (pc_q := 7) (ls_q := [.ref 16, .int a0, .int a1, .int a2, .ref l34, pm_no]) (st_q := []) rfl rfl rfl ?_
      refine pm_R_lo pm_M94 (pc_q := 8) rfl rfl rfl ?_
      refine pm_R_lo pm_M94 (pc_q := 9) rfl rfl rfl ?_
      refine pm_R_cv pm_M94 (pc_q := 12) (a := 16) (ra := [.int a1]) (rest := []) (ls_q := [.ref 16, .int a1]) rfl rfl (Or.inl rfl) pm_M66 T.e16 rfl (by decide) (T.lt (by decide)) rfl rfl (Nat.le_of_ble_eq_true rfl) rfl rfl ?_
      refine pm_R_lo pm_M66 (pc_q := 1) rfl rfl rfl ?_
      refine pm_R_ifc pm_M66 (t := 17) (pc_q := 4) rfl rfl rfl (fun c37 => ?_) (fun c37 => ?_)
      · have B38 : sf_B (-2147483648) (-1) a1 := sf_ltL c37 (sf_any a1) sf_k0
        refine pm_R_op pm_M66 (pc_q := 18) (st_q := [.null]) rfl rfl rfl ?_
        refine pm_R_br pm_M66 (pc_q := 30) rfl rfl ?_
        refine pm_R_ret pm_M66 (r := some (.null)) rfl rfl ?_
        show pm_R _ 94 12 [.ref 16, .int a0, .int a1, .int a2, .ref l34, pm_no] [.null] _ _
        refine pm_R_lo pm_M94 (pc_q := 14) (ls_q := [.ref 16, .int a0, .int a1, .int a2, .ref l34, .null]) (st_q := []) rfl rfl rfl ?_
        refine pm_R_lo pm_M94 (pc_q := 16) rfl rfl rfl ?_
        refine pm_R_br pm_M94 (pc_q := 19) rfl rfl ?_
        refine pm_R_lo pm_M94 (pc_q := 21) rfl rfl rfl ?_
        refine pm_R_br pm_M94 (pc_q := 33) rfl rfl ?_
        refine pm_R_op pm_M94 (pc_q := 34) (st_q := [.int (-1)]) rfl rfl rfl ?_
        exact pm_R_ret pm_M94 (r := some (.int (-1))) rfl rfl (K (-1) m o h T (cl_F.refl (ck := ck) (A := [33, 34, 36]) (n := 0) (s := 0) T.1) (rf_W.refl [] m))
      · have B39 : sf_B 0 2147483647 a1 := sf_leR (Int32.not_lt.mp c37) sf_k0 (sf_any a1)
        refine pm_R_lo pm_M66 (pc_q := 5) rfl rfl rfl ?_
        refine pm_R_lo pm_M66 (pc_q := 6) rfl rfl rfl ?_
        refine pm_R_get pm_M66 (pc_q := 9) (v := .ref 17) rfl rfl T.e16 (by decide) (T.lt (by decide)) rfl rfl ?_
        refine pm_R_get pm_M66 (pc_q := 12) (v := .ref 23) rfl rfl T.e17 (by decide) (T.lt (by decide)) rfl rfl ?_
        refine pm_R_op pm_M66 (pc_q := 13) (st_q := [.int 1, .ref 23, .int a1]) rfl rfl rfl ?_
        obtain ⟨z40, ez41⟩ : ∃ y, f25 (Int32.toNatClampNeg 1) = y := ⟨_, rfl⟩
        have B42 : sf_B 0 3 z40 := ez41 ▸ (b27 1)
        refine pm_R_iald pm_M66 (pc_q := 14) (v := z40) rfl e26 (T.lt (by decide)) rfl ez41 rfl ?_
        refine pm_R_icmp pm_M66 (t := 21) (pc_q := 17) rfl rfl rfl (fun c43 => ?_) (fun c43 => ?_)
        · have B44 : sf_B 0 2 a1 := sf_ltL c43 B39 B42
          have B45 : sf_B 1 3 z40 := sf_ltR c43 B39 B42
          refine pm_R_lo pm_M66 (pc_q := 22) rfl rfl rfl ?_
          refine pm_R_get pm_M66 (pc_q := 25) (v := .ref 17) rfl rfl T.e16 (by decide) (T.lt (by decide)) rfl rfl ?_
          refine pm_R_get pm_M66 (pc_q := 28) (v := .ref 20) rfl rfl T.e17 (by decide) (T.lt (by decide)) rfl rfl ?_
          refine pm_R_lo pm_M66 (pc_q := 29) rfl rfl rfl ?_
          obtain ⟨f46, e47, b48⟩ := T.C 20 (by decide) (by decide)
          obtain ⟨l49, hx50⟩ := cl_there1 T e26 e47 ez41 c43 B44 (by decide)
          have hk51 := b48 _ _ hx50
          refine pm_R_aald pm_M66 (pc_q := 30) (v := .ref l49) rfl e47 (by decide) (by decide) (by decide) (T.lt (by decide)) (sf_in B44 (by decide) (by decide)) (by rw [hx50]; rfl) rfl ?_
          refine pm_R_ret pm_M66 (r := some (.ref l49)) rfl rfl ?_
          show pm_R _ 94 12 [.ref 16, .int a0, .int a1, .int a2, .ref l34, pm_no] [.ref l49] _ _
          refine pm_R_lo pm_M94 (pc_q := 14) (ls_q := [.ref 16, .int a0, .int a1, .int a2, .ref l34, .ref l49]) (st_q := []) rfl rfl rfl ?_
          refine pm_R_lo pm_M94 (pc_q := 16) rfl rfl rfl ?_
          refine pm_R_br pm_M94 (pc_q := 19) rfl rfl ?_
          refine pm_R_lo pm_M94 (pc_q := 21) rfl rfl rfl ?_
          refine pm_R_br pm_M94 (pc_q := 24) rfl rfl ?_
          refine pm_R_lo pm_M94 (pc_q := 26) rfl rfl rfl ?_
          refine pm_R_lo pm_M94 (pc_q := 27) rfl rfl rfl ?_
          obtain ⟨n52, f53, h54, h55, eE56, eE57, b58⟩ := (G.2.2.1 l49 hk51).2
          have kq59 := (G.2.2.1 l49 hk51).1
          refine pm_R_cv pm_M94 (pc_q := 30) (a := l49) (ra := [.int a2]) (rest := []) (ls_q := [.ref l49, .int a2]) rfl rfl (Or.inl rfl) pm_M67 (T.im hk51 (by decide) (by decide) eE56) rfl (G.ge hk51 (by decide)) (T.al hk51 (by decide)) rfl rfl (Nat.le_of_ble_eq_true rfl) rfl rfl ?_
          refine pm_R_lo pm_M67 (pc_q := 1) rfl rfl rfl ?_
          refine pm_R_ifc pm_M67 (t := 16) (pc_q := 4) rfl rfl rfl (fun c60 => ?_) (fun c60 => ?_)
          · have B61 : sf_B (-2147483648) (-1) a2 := sf_ltL c60 (sf_any a2) sf_k0
            refine pm_R_op pm_M67 (pc_q := 17) (st_q := [.int 0]) rfl rfl rfl ?_
            refine pm_R_ret pm_M67 (r := some (.int 0)) rfl rfl ?_
            show pm_R _ 94 30 [.ref 16, .int a0, .int a1, .int a2, .ref l34, .ref l49] [.int 0] _ _
            refine pm_R_br pm_M94 (pc_q := 33) (st_q := []) rfl rfl ?_
            refine pm_R_op pm_M94 (pc_q := 34) (st_q := [.int (-1)]) rfl rfl rfl ?_
            exact pm_R_ret pm_M94 (r := some (.int (-1))) rfl rfl (K (-1) m o h T (cl_F.refl (ck := ck) (A := [33, 34, 36]) (n := 0) (s := 0) T.1) (rf_W.refl [] m))
          · have B62 : sf_B 0 2147483647 a2 := sf_leR (Int32.not_lt.mp c60) sf_k0 (sf_any a2)
            refine pm_R_lo pm_M67 (pc_q := 5) rfl rfl rfl ?_
            refine pm_R_lo pm_M67 (pc_q := 6) rfl rfl rfl ?_
            refine pm_R_get pm_M67 (pc_q := 9) (v := .int (Int32.ofNat n52)) rfl rfl (T.im hk51 (by decide) (by decide) eE56) (G.ge hk51 (by decide)) (T.al hk51 (by decide)) rfl rfl ?_
            refine pm_R_icmp pm_M67 (t := 16) (pc_q := 12) rfl rfl rfl (fun c63 => ?_) (fun c63 => ?_)
            · have B64 : sf_B 1 2147483647 a2 := sf_leR c63 (sf_ofB1 h55 h54 (by decide)) B62
              refine pm_R_op pm_M67 (pc_q := 17) (st_q := [.int 0]) rfl rfl rfl ?_
              refine pm_R_ret pm_M67 (r := some (.int 0)) rfl rfl ?_
              show pm_R _ 94 30 [.ref 16, .int a0, .int a1, .int a2, .ref l34, .ref l49] [.int 0] _ _
              refine pm_R_br pm_M94 (pc_q := 33) (st_q := []) rfl rfl ?_
              refine pm_R_op pm_M94 (pc_q := 34) (st_q := [.int (-1)]) rfl rfl rfl ?_
              exact pm_R_ret pm_M94 (r := some (.int (-1))) rfl rfl (K (-1) m o h T (cl_F.refl (ck := ck) (A := [33, 34, 36]) (n := 0) (s := 0) T.1) (rf_W.refl [] m))
            · have B65 : sf_B 0 11 a2 := sf_ltL (Int32.not_le.mp c63) B62 (sf_ofB1 h55 h54 (by decide))
              refine pm_R_op pm_M67 (pc_q := 13) (st_q := [.int 1]) rfl rfl rfl ?_
              refine pm_R_br pm_M67 (pc_q := 17) rfl rfl ?_
              refine pm_R_ret pm_M67 (r := some (.int 1)) rfl rfl ?_
              show pm_R _ 94 30 [.ref 16, .int a0, .int a1, .int a2, .ref l34, .ref l49] [.int 1] _ _
              refine pm_R_br pm_M94 (pc_q := 35) (st_q := []) rfl rfl ?_
              refine pm_R_lo pm_M94 (pc_q := 36) rfl rfl rfl ?_
              refine pm_R_get pm_M94 (pc_q := 39) (v := .ref 33) rfl rfl T.e16 (by decide) (T.lt (by decide)) rfl rfl ?_
              refine pm_R_lo pm_M94 (pc_q := 41) rfl rfl rfl ?_
              refine pm_R_lo pm_M94 (pc_q := 43) rfl rfl rfl ?_
              refine pm_R_cv pm_M94 (pc_q := 46) (a := 33) (ra := [.ref l49, .ref l34]) (rest := []) (ls_q := [.ref 33, .ref l34, .ref l49, pm_no, pm_no]) rfl rfl (Or.inl rfl) pm_M70 T.e33 rfl (by decide) (T.lt (by decide)) rfl rfl (Nat.le_of_ble_eq_true rfl) rfl rfl ?_
              refine cl_c70 (d := d + 0) G T hk36 hk51 (fun m68 o73 h69 T70 F71 W72 X74 X75 => ?_)
              have F76 := (cl_F.refl (ck := ck) (A := [33, 34, 36]) (n := 0) (s := 0) T.1).trans (N := 0) (S := 0) F71 (by decide) (by decide) (by decide)
              have W77 : rf_W [] m m68 := (rf_W.refl [] m).trans W72 (by decide)
              show pm_R _ 94 46 [.ref 16, .int a0, .int a1, .int a2, .ref l34, .ref l49] [] _ _
              refine pm_R_lo pm_M94 (pc_q := 47) rfl rfl rfl ?_
              refine pm_R_get pm_M94 (pc_q := 50) (v := .ref 33) rfl rfl T70.e16 (by decide) (T70.lt (by decide)) rfl rfl ?_
              refine pm_R_lo pm_M94 (pc_q := 51) rfl rfl rfl ?_
              refine pm_R_cv pm_M94 (pc_q := 54) (a := 33) (ra := [.int a2]) (rest := []) (ls_q := [.ref 33, .int a2, pm_no, pm_no]) rfl rfl (Or.inl rfl) pm_M95 T70.e33 rfl (by decide) (T70.lt (by decide)) rfl rfl (Nat.le_of_ble_eq_true rfl) rfl rfl ?_
              refine cl_c95 (d := d + 0) G T70 B65 X74 X75 eE56 (Int32.not_le.mp c63) (fun r78 m80 h81 T82 F83 W84 => ?_)
              have F85 := F76.trans (N := 0) (S := 0) F83 (by decide) (by decide) (by decide)
              have W86 : rf_W [] m m80 := W77.trans W84 (by decide)
              show pm_R _ 94 54 [.ref 16, .int a0, .int a1, .int a2, .ref l34, .ref l49] [.int r78] _ _
              exact pm_R_ret pm_M94 (r := some (.int r78)) rfl (pm_ret_i _) (K r78 m80 o73 h81 T82 F85 W86)
        · skip
          refine pm_R_op pm_M66 (pc_q := 18) (st_q := [.null]) rfl rfl rfl ?_
          refine pm_R_br pm_M66 (pc_q := 30) rfl rfl ?_
          refine pm_R_ret pm_M66 (r := some (.null)) rfl rfl ?_
          show pm_R _ 94 12 [.ref 16, .int a0, .int a1, .int a2, .ref l34, pm_no] [.null] _ _
          refine pm_R_lo pm_M94 (pc_q := 14) (ls_q := [.ref 16, .int a0, .int a1, .int a2, .ref l34, .null]) (st_q := []) rfl rfl rfl ?_
          refine pm_R_lo pm_M94 (pc_q := 16) rfl rfl rfl ?_
          refine pm_R_br pm_M94 (pc_q := 19) rfl rfl ?_
          refine pm_R_lo pm_M94 (pc_q := 21) rfl rfl rfl ?_
          refine pm_R_br pm_M94 (pc_q := 33) rfl rfl ?_
          refine pm_R_op pm_M94 (pc_q := 34) (st_q := [.int (-1)]) rfl rfl rfl ?_
          exact pm_R_ret pm_M94 (r := some (.int (-1))) rfl rfl (K (-1) m o h T (cl_F.refl (ck := ck) (A := [33, 34, 36]) (n := 0) (s := 0) T.1) (rf_W.refl [] m))
    · skip
      refine pm_R_op pm_M62 (pc_q := 18) (st_q := [.null]) rfl rfl rfl ?_
      refine pm_R_br pm_M62 (pc_q := 30) rfl rfl ?_
      refine pm_R_ret pm_M62 (r := some (.null)) rfl rfl ?_
      show pm_R _ 94 5 [.ref 16, .int a0, .int a1, .int a2, pm_no, pm_no] [.null] _ _
      refine pm_R_lo pm_M94 (pc_q := 7) (ls_q := [.ref 16, .int a0, .int a1, .int a2, .null, pm_no]) (st_q := []) rfl rfl rfl ?_
      refine pm_R_lo pm_M94 (pc_q := 8) rfl rfl rfl ?_
      refine pm_R_lo pm_M94 (pc_q := 9) rfl rfl rfl ?_
      refine pm_R_cv pm_M94 (pc_q := 12) (a := 16) (ra := [.int a1]) (rest := []) (ls_q := [.ref 16, .int a1]) rfl rfl (Or.inl rfl) pm_M66 T.e16 rfl (by decide) (T.lt (by decide)) rfl rfl (Nat.le_of_ble_eq_true rfl) rfl rfl ?_
      refine pm_R_lo pm_M66 (pc_q := 1) rfl rfl rfl ?_
      refine pm_R_ifc pm_M66 (t := 17) (pc_q := 4) rfl rfl rfl (fun c87 => ?_) (fun c87 => ?_)
      · have B88 : sf_B (-2147483648) (-1) a1 := sf_ltL c87 (sf_any a1) sf_k0
        refine pm_R_op pm_M66 (pc_q := 18) (st_q := [.null]) rfl rfl rfl ?_
        refine pm_R_br pm_M66 (pc_q := 30) rfl rfl ?_
        refine pm_R_ret pm_M66 (r := some (.null)) rfl rfl ?_
        show pm_R _ 94 12 [.ref 16, .int a0, .int a1, .int a2, .null, pm_no] [.null] _ _
        refine pm_R_lo pm_M94 (pc_q := 14) (ls_q := [.ref 16, .int a0, .int a1, .int a2, .null, .null]) (st_q := []) rfl rfl rfl ?_
        refine pm_R_lo pm_M94 (pc_q := 16) rfl rfl rfl ?_
        refine pm_R_br pm_M94 (pc_q := 33) rfl rfl ?_
        refine pm_R_op pm_M94 (pc_q := 34) (st_q := [.int (-1)]) rfl rfl rfl ?_
        exact pm_R_ret pm_M94 (r := some (.int (-1))) rfl rfl (K (-1) m o h T (cl_F.refl (ck := ck) (A := [33, 34, 36]) (n := 0) (s := 0) T.1) (rf_W.refl [] m))
      · have B89 : sf_B 0 2147483647 a1 := sf_leR (Int32.not_lt.mp c87) sf_k0 (sf_any a1)
        refine pm_R_lo pm_M66 (pc_q := 5) rfl rfl rfl ?_
        refine pm_R_lo pm_M66 (pc_q := 6) rfl rfl rfl ?_
        refine pm_R_get pm_M66 (pc_q := 9) (v := .ref 17) rfl rfl T.e16 (by decide) (T.lt (by decide)) rfl rfl ?_
        refine pm_R_get pm_M66 (pc_q := 12) (v := .ref 23) rfl rfl T.e17 (by decide) (T.lt (by decide)) rfl rfl ?_
        refine pm_R_op pm_M66 (pc_q := 13) (st_q := [.int 1, .ref 23, .int a1]) rfl rfl rfl ?_
        obtain ⟨z90, ez91⟩ : ∃ y, f25 (Int32.toNatClampNeg 1) = y := ⟨_, rfl⟩
        have B92 : sf_B 0 3 z90 := ez91 ▸ (b27 1)
        refine pm_R_iald pm_M66 (pc_q := 14) (v := z90) rfl e26 (T.lt (by decide)) rfl ez91 rfl ?_
        refine pm_R_icmp pm_M66 (t := 21) (pc_q := 17) rfl rfl rfl (fun c93 => ?_) (fun c93 => ?_)
        · have B94 : sf_B 0 2 a1 := sf_ltL c93 B89 B92
          have B95 : sf_B 1 3 z90 := sf_ltR c93 B89 B92
          refine pm_R_lo pm_M66 (pc_q := 22) rfl rfl rfl ?_
          refine pm_R_get pm_M66 (pc_q := 25) (v := .ref 17) rfl rfl T.e16 (by decide) (T.lt (by decide)) rfl rfl ?_
          refine pm_R_get pm_M66 (pc_q := 28) (v := .ref 20) rfl rfl T.e17 (by decide) (T.lt (by decide)) rfl rfl ?_
          refine pm_R_lo pm_M66 (pc_q := 29) rfl rfl rfl ?_
          obtain ⟨f96, e97, b98⟩ := T.C 20 (by decide) (by decide)
          obtain ⟨l99, hx100⟩ := cl_there1 T e26 e97 ez91 c93 B94 (by decide)
          have hk101 := b98 _ _ hx100
          refine pm_R_aald pm_M66 (pc_q := 30) (v := .ref l99) rfl e97 (by decide) (by decide) (by decide) (T.lt (by decide)) (sf_in B94 (by decide) (by decide)) (by rw [hx100]; rfl) rfl ?_
          refine pm_R_ret pm_M66 (r := some (.ref l99)) rfl rfl ?_
          show pm_R _ 94 12 [.ref 16, .int a0, .int a1, .int a2, .null, pm_no] [.ref l99] _ _
          refine pm_R_lo pm_M94 (pc_q := 14) (ls_q := [.ref 16, .int a0, .int a1, .int a2, .null, .ref l99]) (st_q := []) rfl rfl rfl ?_
          refine pm_R_lo pm_M94 (pc_q := 16) rfl rfl rfl ?_
          refine pm_R_br pm_M94 (pc_q := 33) rfl rfl ?_
          refine pm_R_op pm_M94 (pc_q := 34) (st_q := [.int (-1)]) rfl rfl rfl ?_
          exact pm_R_ret pm_M94 (r := some (.int (-1))) rfl rfl (K (-1) m o h T (cl_F.refl (ck := ck) (A := [33, 34, 36]) (n := 0) (s := 0) T.1) (rf_W.refl [] m))
        · skip
          refine pm_R_op pm_M66 (pc_q := 18) (st_q := [.null]) rfl rfl rfl ?_
          refine pm_R_br pm_M66 (pc_q := 30) rfl rfl ?_
          refine pm_R_ret pm_M66 (r := some (.null)) rfl rfl ?_
          show pm_R _ 94 12 [.ref 16, .int a0, .int a1, .int a2, .null, pm_no] [.null] _ _
          refine pm_R_lo pm_M94 (pc_q := 14) (ls_q := [.ref 16, .int a0, .int a1, .int a2, .null, .null]) (st_q := []) rfl rfl rfl ?_
          refine pm_R_lo pm_M94 (pc_q := 16) rfl rfl rfl ?_
          refine pm_R_br pm_M94 (pc_q := 33) rfl rfl ?_
          refine pm_R_op pm_M94 (pc_q := 34) (st_q := [.int (-1)]) rfl rfl rfl ?_
          exact pm_R_ret pm_M94 (r := some (.int (-1))) rfl rfl (K (-1) m o h T (cl_F.refl (ck := ck) (A := [33, 34, 36]) (n := 0) (s := 0) T.1) (rf_W.refl [] m))

set_option maxRecDepth 100000 in
set_option maxHeartbeats 4000000 in
/-- SilentTable$House.judge -/
theorem cl_c165 {d : Nat} {ck : cl_K} {E : Nat → pm_E} {m : Nat → Int32} {o : Nat → Option Nat} {h : pm_H} {Q : Option Value → pm_H → Prop} {a : Nat} {a0 : Nat} (G : cl_G ck E) (T : cl_T ck E m o h) (hk : ck a = 13) (hk0 : ck a0 = 9) (K : ∀ (m_q : Nat → Int32) (h_q : pm_H), cl_T ck E m_q o h_q → cl_F ck [40] 2 16 h h_q → rf_W [] m m_q → Q none h_q) : pm_R (d + 2) 165 0 [.ref a, .ref a0, .ref 40, pm_no, pm_no, pm_no, pm_no] [] h Q := by
  refine pm_R_op pm_M165 (pc_q := 2) (st_q := [.int 10]) rfl rfl rfl ?_
  refine cl_R_newa G pm_M165 T (N := 10) (pc_q := 4) rfl (by decide) rfl (by decide) rfl (fun t1 h2 T3 F4 ht5 hu70 e6 => ?_)
  have hu7 := Nat.le_trans (cl_F.refl (ck := ck) (A := [40]) (n := 0) (s := 0) T.1).2.1 (Nat.le_of_eq hu70)
  have F8 := (cl_F.refl (ck := ck) (A := [40]) (n := 0) (s := 0) T.1).trans (N := 1) (S := 10) F4 (by decide) (by decide) (by decide)
  refine pm_R_lo pm_M165 (pc_q := 5) (ls_q := [.ref a, .ref a0, .ref 40, .ref t1, pm_no, pm_no, pm_no]) (st_q := []) rfl rfl rfl ?_
  refine pm_R_op pm_M165 (pc_q := 7) (st_q := [.int 6]) rfl rfl rfl ?_
  refine cl_R_newa G pm_M165 T3 (N := 6) (pc_q := 9) rfl (by decide) rfl (by decide) rfl (fun t9 h10 T11 F12 ht13 hu150 e14 => ?_)
  have hu15 := Nat.le_trans F8.2.1 (Nat.le_of_eq hu150)
  have ne16 : t1 ≠ t9 := cl_tne (h_q := h) ht5 hu150
  have F17 := F8.trans (N := 2) (S := 16) F12 (by decide) (by decide) (by decide)
  refine pm_R_lo pm_M165 (pc_q := 11) (ls_q := [.ref a, .ref a0, .ref 40, .ref t1, .ref t9, pm_no, pm_no]) (st_q := []) rfl rfl rfl ?_
  refine pm_R_lo pm_M165 (pc_q := 13) rfl rfl rfl ?_
  refine pm_R_op pm_M165 (pc_q := 14) (st_q := [.int (-1), .ref t9]) rfl rfl rfl ?_
  refine pm_R_cs pm_M165 (pc_q := 17) (ra := [.int (-1), .ref t9]) (rest := []) (ls_q := [.ref t9, .int (-1), pm_no, pm_no]) rfl rfl (Or.inl rfl) pm_M13 rfl rfl (Nat.le_of_ble_eq_true rfl) rfl rfl ?_
  refine pm_R_op pm_M13 (pc_q := 1) (st_q := [.int 0]) rfl rfl rfl ?_
  refine pm_R_lo pm_M13 (pc_q := 2) (ls_q := [.ref t9, .int (-1), .int 0, pm_no]) (st_q := []) rfl rfl rfl ?_
  refine pm_R_lo pm_M13 (pc_q := 3) rfl rfl rfl ?_
  refine pm_R_alen pm_M13 (pc_q := 4) (v := 6) rfl e14 (Nat.le_trans (by decide) ht13.1) ht13.2.2 (by decide) rfl rfl ?_
  refine pm_R_lo pm_M13 (pc_q := 5) (ls_q := [.ref t9, .int (-1), .int 0, .int 6]) (st_q := []) rfl rfl rfl ?_
  refine pm_R_lo pm_M13 (pc_q := 6) rfl rfl rfl ?_
  refine pm_R_lo pm_M13 (pc_q := 7) rfl rfl rfl ?_
  refine pm_R_br pm_M13 (pc_q := 10) (st_q := []) rfl rfl ?_
  refine pm_R_lo pm_M13 (pc_q := 11) rfl rfl rfl ?_
  refine pm_R_lo pm_M13 (pc_q := 12) rfl rfl rfl ?_
  refine pm_R_lo pm_M13 (pc_q := 13) rfl rfl rfl ?_
  refine cl_R_tst G pm_M13 T11 (pc_q := 14) rfl e14 ht13 rfl rfl (fun h18 T19 F20 e21 => ?_)
  have F22 := F17.transT F20 hu15
  refine pm_R_lo pm_M13 (pc_q := 17) (ls_q := [.ref t9, .int (-1), .int 1, .int 6]) (st_q := []) rfl rfl rfl ?_
  refine pm_R_br pm_M13 (pc_q := 5) rfl rfl ?_
  refine pm_R_lo pm_M13 (pc_q := 6) rfl rfl rfl ?_
  refine pm_R_lo pm_M13 (pc_q := 7) rfl rfl rfl ?_
  refine pm_R_br pm_M13 (pc_q := 10) (st_q := []) rfl rfl ?_
  refine pm_R_lo pm_M13 (pc_q := 11) rfl rfl rfl ?_
  refine pm_R_lo pm_M13 (pc_q := 12) rfl rfl rfl ?_
  refine pm_R_lo pm_M13 (pc_q := 13) rfl rfl rfl ?_
  have ht23 := (ht13.F F20)
  refine cl_R_tst G pm_M13 T19 (pc_q := 14) rfl e21 ht23 rfl rfl (fun h24 T25 F26 e27 => ?_)
  have F28 := F22.transT F26 hu15
  refine pm_R_lo pm_M13 (pc_q := 17) (ls_q := [.ref t9, .int (-1), .int 2, .int 6]) (st_q := []) rfl rfl rfl ?_
  refine pm_R_br pm_M13 (pc_q := 5) rfl rfl ?_
  refine pm_R_lo pm_M13 (pc_q := 6) rfl rfl rfl ?_
  refine pm_R_lo pm_M13 (pc_q := 7) rfl rfl rfl ?_
  refine pm_R_br pm_M13 (pc_q := 10) (st_q := []) rfl rfl ?_
  refine pm_R_lo pm_M13 (pc_q := 11) rfl rfl rfl ?_
  refine pm_R_lo pm_M13 (pc_q := 12) rfl rfl rfl ?_
  refine pm_R_lo pm_M13 (pc_q := 13) rfl rfl rfl ?_
  have ht29 := (ht23.F F26)
  refine cl_R_tst G pm_M13 T25 (pc_q := 14) rfl e27 ht29 rfl rfl (fun h30 T31 F32 e33 => ?_)
  have F34 := F28.transT F32 hu15
  refine pm_R_lo pm_M13 (pc_q := 17) (ls_q := [.ref t9, .int (-1), .int 3, .int 6]) (st_q := []) rfl rfl rfl ?_
  refine pm_R_br pm_M13 (pc_q := 5) rfl rfl ?_
  refine pm_R_lo pm_M13 (pc_q := 6) rfl rfl rfl ?_
  refine pm_R_lo pm_M13 (pc_q := 7) rfl rfl rfl ?_
  refine pm_R_br pm_M13 (pc_q := 10) (st_q := []) rfl rfl ?_
  refine pm_R_lo pm_M13 (pc_q := 11) rfl rfl rfl ?_
  refine pm_R_lo pm_M13 (pc_q := 12) rfl rfl rfl ?_
  refine pm_R_lo pm_M13 (pc_q := 13) rfl rfl rfl ?_
  have ht35 := (ht29.F F32)
  refine cl_R_tst G pm_M13 T31 (pc_q := 14) rfl e33 ht35 rfl rfl (fun h36 T37 F38 e39 => ?_)
  have F40 := F34.transT F38 hu15
  refine pm_R_lo pm_M13 (pc_q := 17) (ls_q := [.ref t9, .int (-1), .int 4, .int 6]) (st_q := []) rfl rfl rfl ?_
  refine pm_R_br pm_M13 (pc_q := 5) rfl rfl ?_
  refine pm_R_lo pm_M13 (pc_q := 6) rfl rfl rfl ?_
  refine pm_R_lo pm_M13 (pc_q := 7) rfl rfl rfl ?_
  refine pm_R_br pm_M13 (pc_q := 10) (st_q := []) rfl rfl ?_
  refine pm_R_lo pm_M13 (pc_q := 11) rfl rfl rfl ?_
  refine pm_R_lo pm_M13 (pc_q := 12) rfl rfl rfl ?_
  refine pm_R_lo pm_M13 (pc_q := 13) rfl rfl rfl ?_
  have ht41 := (ht35.F F38)
  refine cl_R_tst G pm_M13 T37 (pc_q := 14) rfl e39 ht41 rfl rfl (fun h42 T43 F44 e45 => ?_)
  have F46 := F40.transT F44 hu15
  refine pm_R_lo pm_M13 (pc_q := 17) (ls_q := [.ref t9, .int (-1), .int 5, .int 6]) (st_q := []) rfl rfl rfl ?_
  refine pm_R_br pm_M13 (pc_q := 5) rfl rfl ?_
  refine pm_R_lo pm_M13 (pc_q := 6) rfl rfl rfl ?_
  refine pm_R_lo pm_M13 (pc_q := 7) rfl rfl rfl ?_
  refine pm_R_br pm_M13 (pc_q := 10) (st_q := []) rfl rfl ?_
  refine pm_R_lo pm_M13 (pc_q := 11) rfl rfl rfl ?_
  refine pm_R_lo pm_M13 (pc_q := 12) rfl rfl rfl ?_
  refine pm_R_lo pm_M13 (pc_q := 13) rfl rfl rfl ?_
  have ht47 := (ht41.F F44)
  refine cl_R_tst G pm_M13 T43 (pc_q := 14) rfl e45 ht47 rfl rfl (fun h48 T49 F50 e51 => ?_)
  have F52 := F46.transT F50 hu15
  refine pm_R_lo pm_M13 (pc_q := 17) (ls_q := [.ref t9, .int (-1), .int 6, .int 6]) (st_q := []) rfl rfl rfl ?_
  refine pm_R_br pm_M13 (pc_q := 5) rfl rfl ?_
  refine pm_R_lo pm_M13 (pc_q := 6) rfl rfl rfl ?_
  refine pm_R_lo pm_M13 (pc_q := 7) rfl rfl rfl ?_
  refine pm_R_br pm_M13 (pc_q := 20) (st_q := []) rfl rfl ?_
  refine pm_R_ret pm_M13 (r := none) rfl rfl ?_
  show pm_R _ 165 17 [.ref a, .ref a0, .ref 40, .ref t1, .ref t9, pm_no, pm_no] [] _ _
  refine pm_R_op pm_M165 (pc_q := 18) (st_q := [.int 0]) rfl rfl rfl ?_
  refine pm_R_lo pm_M165 (pc_q := 20) (ls_q := [.ref a, .ref a0, .ref 40, .ref t1, .ref t9, .int 0, pm_no]) (st_q := []) rfl rfl rfl ?_
  have L_8263 : ∀ (N : Nat) (h_8263 : pm_H) (m_8263 : Nat → Int32) (x5_8263 : Int32) (g6_8263 : Value), cl_T ck E m_8263 o h_8263 → cl_F ck [40] 2 16 h h_8263 → rf_W [] m m_8263 → sf_B 0 50 x5_8263 → g6_8263.category = 1 → (cl_t ck t1 h_8263 ∧ cl_t ck t9 h_8263 ∧ (∃ f : Nat → Int32, h_8263.2.2 t1 = .inl (0, 10, .inl f)) ∧ (∃ f : Nat → Int32, h_8263.2.2 t9 = .inl (0, 6, .inl f))) → (50 - x5_8263.toInt).toNat = N → pm_R (d + 2) 165 20 [.ref a, .ref a0, .ref 40, .ref t1, .ref t9, .int x5_8263, g6_8263] [] h_8263 Q := by
    intro N
    induction N using Nat.strongRecOn with
    | ind N ih_8263 =>
      intro h_8263 m_8263 x5_8263 g6_8263 T_8263 F_8263 W_8263 Bx5_8263 Cg6_8263 X_8263 hN_8263
      have W8266 : rf_W [] m m_8263 := (rf_W.refl [] m).trans W_8263 (by decide)
      obtain ⟨f8267, e8268⟩ := X_8263.2.2.1
      obtain ⟨f8269, e8270⟩ := X_8263.2.2.2
      refine pm_R_lo pm_M165 (pc_q := 22) rfl rfl rfl ?_
      refine pm_R_lo pm_M165 (pc_q := 23) rfl rfl rfl ?_
      obtain ⟨s8271, n8272, fd8273, fg8274, fs8275, h8276, h8277, h8278, eE8279, eE8280, eE8281, eE8282, b8283⟩ := (G.2.2.2.1 a0 hk0).2.2.2
      have kq8284 := G.2.2.2.1 a0 hk0
      refine pm_R_get pm_M165 (pc_q := 26) (v := .int (Int32.ofNat n8272)) rfl rfl (T_8263.im hk0 (by decide) (by decide) eE8279) (G.ge hk0 (by decide)) (T_8263.al hk0 (by decide)) rfl rfl ?_
      refine pm_R_icmp pm_M165 (t := 123) (pc_q := 29) rfl rfl rfl (fun c8285 => ?_) (fun c8285 => ?_)
      · skip
        exact pm_R_ret pm_M165 (r := none) (pm_q165_1 (Nat.le_of_ble_eq_true rfl)) rfl (K m_8263 h_8263 T_8263 F_8263 W8266)
      · have B8286 : sf_B 0 49 x5_8263 := sf_ltL (Int32.not_le.mp c8285) Bx5_8263 (sf_ofB h8278 (by decide))
        have B8287 : sf_B 1 50 (Int32.ofNat n8272) := sf_ltR (Int32.not_le.mp c8285) Bx5_8263 (sf_ofB h8278 (by decide))
        refine pm_R_lo pm_M165 (pc_q := 30) rfl rfl rfl ?_
        refine pm_R_lo pm_M165 (pc_q := 32) rfl rfl rfl ?_
        refine pm_R_op pm_M165 (pc_q := 33) (st_q := [.int 0, .int x5_8263, .ref 40]) rfl rfl rfl ?_
        obtain ⟨f8288, e8289⟩ := T_8263.C 40 (by decide) (by decide)
        refine cl_R_ist G pm_M165 T_8263 (pc_q := 34) rfl e8289 (by decide) ⟨_, rfl⟩ (sf_in B8286 (by decide) (by decide)) rfl (fun h8291 T8292 F8293 e8294 => ?_)
        have F8295 := F8293.cl (ck := ck) T_8263.1
        have F8296 := F_8263.trans (N := 2) (S := 16) F8295 (by decide) (by decide) (by decide)
        refine pm_R_lo pm_M165 (pc_q := 35) rfl rfl rfl ?_
        refine pm_R_lo pm_M165 (pc_q := 37) rfl rfl rfl ?_
        refine pm_R_cv pm_M165 (pc_q := 40) (a := a0) (ra := [.int x5_8263]) (rest := []) (ls_q := [.ref a0, .int x5_8263]) rfl rfl (Or.inl rfl) pm_M51 (T8292.im hk0 (by decide) (by decide) eE8279) rfl (G.ge hk0 (by decide)) (T8292.al hk0 (by decide)) rfl rfl (Nat.le_of_ble_eq_true rfl) rfl rfl ?_
        refine pm_R_lo pm_M51 (pc_q := 1) rfl rfl rfl ?_
        refine pm_R_get pm_M51 (pc_q := 4) (v := .ref (a0 + 1)) rfl rfl (T8292.im hk0 (by decide) (by decide) eE8279) (G.ge hk0 (by decide)) (T8292.al hk0 (by decide)) rfl rfl ?_
        refine pm_R_lo pm_M51 (pc_q := 5) rfl rfl rfl ?_
        refine pm_R_op pm_M51 (pc_q := 6) (st_q := [.int 4, .int x5_8263, .ref (a0 + 1)]) rfl rfl rfl ?_
        refine sf_R_imul pm_M51 (pc_q := 7) rfl rfl B8286 sf_k4 (by decide) (by decide) (by decide) (fun z8297 e8298 B8299 => ?_)
        have q8303 := cl_in4 (n := n8272) (Nat.le_trans h8278 (by decide)) (Int32.not_le.mp c8285) (cl_aux5 _ _ e8298) B8286 (by decide) (by decide)
        obtain ⟨z8300, ez8301⟩ : ∃ y, fd8273 (Int32.toNatClampNeg z8297) = y := ⟨_, rfl⟩
        have B8302 : sf_B 0 2 z8300 := ez8301 ▸ q8303.2.2 ▸ (b8283 _ q8303.2.1).1
        refine pm_R_iald pm_M51 (pc_q := 8) (v := z8300) rfl (T8292.im kq8284.1 (by decide) (by decide) eE8280) (T8292.al kq8284.1 (by decide)) q8303.1 ez8301 rfl ?_
        refine pm_R_op pm_M51 (pc_q := 9) (st_q := [.int 2, .int z8300]) rfl rfl rfl ?_
        refine pm_R_icmp pm_M51 (t := 16) (pc_q := 12) rfl rfl rfl (fun c8304 => ?_) (fun c8304 => ?_)
        · have B8305 : sf_B 0 1 z8300 := sf_neH0 c8304 sf_k2 B8302
          refine pm_R_op pm_M51 (pc_q := 17) (st_q := [.int 0]) rfl rfl rfl ?_
          refine pm_R_ret pm_M51 (r := some (.int 0)) rfl rfl ?_
          show pm_R _ 165 40 [.ref a, .ref a0, .ref 40, .ref t1, .ref t9, .int x5_8263, g6_8263] [.int 0] _ _
          refine pm_R_br pm_M165 (pc_q := 43) (st_q := []) rfl rfl ?_
          refine pm_R_br pm_M165 (pc_q := 117) rfl rfl ?_
          refine sf_R_iinc pm_M165 (pc_q := 120) (ls_q := fun z => [.ref a, .ref a0, .ref 40, .ref t1, .ref t9, .int z, g6_8263]) (pm_q165_1 (Nat.le_of_ble_eq_true rfl)) B8286 rfl (by decide) (by decide) (by decide) (fun _ => rfl) rfl (fun z8306 e8307 B8308 => ?_)
          show pm_R _ 165 120 [.ref a, .ref a0, .ref 40, .ref t1, .ref t9, .int z8306, g6_8263] [] _ _
          refine pm_R_br pm_M165 (pc_q := 20) (pm_q165_1 (Nat.le_of_ble_eq_true rfl)) rfl ?_
          have e8309 := (F8295.tmp X_8263.1 (cl_tA X_8263.1 (by decide)) e8268)
          have e8310 := (F8295.tmp X_8263.2.1 (cl_tA X_8263.2.1 (by decide)) e8270)
          have ht8311 := (X_8263.1.F F8295)
          have ht8312 := (X_8263.2.1.F F8295)
          exact ih_8263 _ (sf_up hN_8263 e8307 B8286 (by decide) (by decide)) h8291 m_8263 z8306 (g6_8263) T8292 F8296 W_8263 (sf_weak B8308 (by decide) (by decide)) Cg6_8263 ⟨ht8311, ht8312, ⟨_, e8309⟩, ⟨_, e8310⟩⟩ rfl
        · have B8313 : sf_B 2 2 z8300 := sf_eqL (Classical.not_not.mp c8304) sf_k2
          refine pm_R_op pm_M51 (pc_q := 13) (st_q := [.int 1]) rfl rfl rfl ?_
          refine pm_R_br pm_M51 (pc_q := 17) rfl rfl ?_
          refine pm_R_ret pm_M51 (r := some (.int 1)) rfl rfl ?_
          show pm_R _ 165 40 [.ref a, .ref a0, .ref 40, .ref t1, .ref t9, .int x5_8263, g6_8263] [.int 1] _ _
          refine pm_R_br pm_M165 (pc_q := 46) (st_q := []) rfl rfl ?_
          refine pm_R_op pm_M165 (pc_q := 47) (st_q := [.int 0]) rfl rfl rfl ?_
          refine pm_R_lo pm_M165 (pc_q := 49) (ls_q := [.ref a, .ref a0, .ref 40, .ref t1, .ref t9, .int x5_8263, .int 0]) (st_q := []) rfl rfl rfl ?_
          have L_9924 : ∀ (N : Nat) (h_9924 : pm_H) (m_9924 : Nat → Int32) (x6_9924 : Int32), cl_T ck E m_9924 o h_9924 → cl_F ck [40] 2 16 h h_9924 → rf_W [] m_8263 m_9924 → sf_B 0 8 x6_9924 → (cl_t ck t1 h_9924 ∧ cl_t ck t9 h_9924 ∧ (∃ f : Nat → Int32, h_9924.2.2 t1 = .inl (0, 10, .inl f)) ∧ (∃ f : Nat → Int32, h_9924.2.2 t9 = .inl (0, 6, .inl f))) → (8 - x6_9924.toInt).toNat = N → pm_R (d + 2) 165 49 [.ref a, .ref a0, .ref 40, .ref t1, .ref t9, .int x5_8263, .int x6_9924] [] h_9924 Q := by
            intro N
            induction N using Nat.strongRecOn with
            | ind N ih_9924 =>
              intro h_9924 m_9924 x6_9924 T_9924 F_9924 W_9924 Bx6_9924 X_9924 hN_9924
              have W9927 : rf_W [] m m_9924 := W8266.trans W_9924 (by decide)
              have W9928 : rf_W [] m m_9924 := W_8263.trans W_9924 (by decide)
              obtain ⟨f9929, e9930⟩ := X_9924.2.2.1
              obtain ⟨f9931, e9932⟩ := X_9924.2.2.2
              refine pm_R_lo pm_M165 (pc_q := 51) rfl rfl rfl ?_
              refine pm_R_lo pm_M165 (pc_q := 52) rfl rfl rfl ?_
              obtain ⟨n9933, f9934, h9935, eE9936, eE9937, b9938⟩ := (G.2.2.2.2.1 a hk).2
              have kq9939 := (G.2.2.2.2.1 a hk).1
              refine pm_R_get pm_M165 (pc_q := 55) (v := .int (Int32.ofNat n9933)) rfl rfl (T_9924.im hk (by decide) (by decide) eE9936) (G.ge hk (by decide)) (T_9924.al hk (by decide)) rfl rfl ?_
              refine pm_R_icmp pm_M165 (t := 90) (pc_q := 58) rfl rfl rfl (fun c9940 => ?_) (fun c9940 => ?_)
              · skip
                refine pm_R_lo pm_M165 (pc_q := 91) rfl rfl rfl ?_
                refine pm_R_lo pm_M165 (pc_q := 92) rfl rfl rfl ?_
                refine pm_R_lo pm_M165 (pc_q := 94) rfl rfl rfl ?_
                refine pm_R_cv pm_M165 (pc_q := 97) (a := a0) (ra := [.int x5_8263]) (rest := [.ref t1]) (ls_q := [.ref a0, .int x5_8263]) rfl rfl (Or.inl rfl) pm_M147 (T_9924.im hk0 (by decide) (by decide) eE8279) rfl (G.ge hk0 (by decide)) (T_9924.al hk0 (by decide)) rfl rfl (Nat.le_of_ble_eq_true rfl) rfl rfl ?_
                refine pm_R_lo pm_M147 (pc_q := 1) rfl rfl rfl ?_
                refine pm_R_get pm_M147 (pc_q := 4) (v := .ref (a0 + 1)) rfl rfl (T_9924.im hk0 (by decide) (by decide) eE8279) (G.ge hk0 (by decide)) (T_9924.al hk0 (by decide)) rfl rfl ?_
                refine pm_R_lo pm_M147 (pc_q := 5) rfl rfl rfl ?_
                refine pm_R_op pm_M147 (pc_q := 6) (st_q := [.int 4, .int x5_8263, .ref (a0 + 1)]) rfl rfl rfl ?_
                refine sf_R_imulV pm_M147 (pc_q := 7) rfl rfl B8286 sf_k4 (by decide) (by decide) (by decide) e8298 ?_
                refine pm_R_op pm_M147 (pc_q := 8) (st_q := [.int 2, .int z8297, .ref (a0 + 1)]) rfl rfl rfl ?_
                refine sf_R_iadd pm_M147 (pc_q := 9) rfl rfl B8299 sf_k2 (by decide) (by decide) (fun z9941 e9942 B9943 => ?_)
                have q9947 := cl_in4 (n := n8272) (Nat.le_trans h8278 (by decide)) (Int32.not_le.mp c8285) (cl_aux6 _ _ _ e8298 e9942) B8286 (by decide) (by decide)
                obtain ⟨z9944, ez9945⟩ : ∃ y, fd8273 (Int32.toNatClampNeg z9941) = y := ⟨_, rfl⟩
                have B9946 : sf_B (-1) 9 z9944 := ez9945 ▸ q9947.2.2 ▸ (b8283 _ q9947.2.1).2.2.1
                have B9948 : sf_B 0 9 z9944 := cl_sign (b8283 _ q9947.2.1).2.2.2 q8303.2.2 ez8301 (Classical.not_not.mp c8304) q9947.2.2 ez9945 B9946 (by decide)
                refine pm_R_iald pm_M147 (pc_q := 10) (v := z9944) rfl (T_9924.im kq8284.1 (by decide) (by decide) eE8280) (T_9924.al kq8284.1 (by decide)) q9947.1 ez9945 rfl ?_
                refine pm_R_ret pm_M147 (r := some (.int z9944)) rfl (pm_ret_i _) ?_
                show pm_R _ 165 97 [.ref a, .ref a0, .ref 40, .ref t1, .ref t9, .int x5_8263, .int x6_9924] [.int z9944, .ref t1] _ _
                refine pm_R_op pm_M165 (pc_q := 98) (st_q := [.int z9944, .ref t1, .int z9944, .ref t1]) rfl rfl rfl ?_
                obtain ⟨z9949, ez9950⟩ : ∃ y, f9929 (Int32.toNatClampNeg z9944) = y := ⟨_, rfl⟩
                refine pm_R_iald pm_M165 (pc_q := 99) (v := z9949) rfl e9930 X_9924.1.2.2 (sf_in B9948 (by decide) (by decide)) ez9950 rfl ?_
                refine pm_R_op pm_M165 (pc_q := 100) (st_q := [.int 1, .int z9949, .int z9944, .ref t1]) rfl rfl rfl ?_
                refine sf_R_iany pm_M165 (pc_q := 101) (st := [.int z9944, .ref t1]) rfl rfl rfl (fun z9955 => ?_)
                refine cl_R_tst G pm_M165 T_9924 (pc_q := 102) rfl e9930 X_9924.1 (sf_in B9948 (by decide) (by decide)) rfl (fun h9956 T9957 F9958 e9959 => ?_)
                have F9960 := F_9924.transT F9958 hu7
                refine pm_R_lo pm_M165 (pc_q := 104) rfl rfl rfl ?_
                refine pm_R_lo pm_M165 (pc_q := 105) rfl rfl rfl ?_
                refine pm_R_lo pm_M165 (pc_q := 107) (pm_q165_1 (Nat.le_of_ble_eq_true rfl)) rfl rfl ?_
                refine pm_R_cv pm_M165 (pc_q := 110) (a := a0) (ra := [.int x5_8263]) (rest := [.ref t9]) (ls_q := [.ref a0, .int x5_8263]) (pm_q165_1 (Nat.le_of_ble_eq_true rfl)) rfl (Or.inl rfl) pm_M52 (T9957.im hk0 (by decide) (by decide) eE8279) rfl (G.ge hk0 (by decide)) (T9957.al hk0 (by decide)) rfl rfl (Nat.le_of_ble_eq_true rfl) rfl rfl ?_
                refine pm_R_lo pm_M52 (pc_q := 1) rfl rfl rfl ?_
                refine pm_R_get pm_M52 (pc_q := 4) (v := .ref (a0 + 1)) rfl rfl (T9957.im hk0 (by decide) (by decide) eE8279) (G.ge hk0 (by decide)) (T9957.al hk0 (by decide)) rfl rfl ?_
                refine pm_R_lo pm_M52 (pc_q := 5) rfl rfl rfl ?_
                refine pm_R_op pm_M52 (pc_q := 6) (st_q := [.int 4, .int x5_8263, .ref (a0 + 1)]) rfl rfl rfl ?_
                refine sf_R_imulV pm_M52 (pc_q := 7) rfl rfl B8286 sf_k4 (by decide) (by decide) (by decide) e8298 ?_
                refine pm_R_op pm_M52 (pc_q := 8) (st_q := [.int 1, .int z8297, .ref (a0 + 1)]) rfl rfl rfl ?_
                refine sf_R_iadd pm_M52 (pc_q := 9) rfl rfl B8299 sf_k1 (by decide) (by decide) (fun z9961 e9962 B9963 => ?_)
                have q9967 := cl_in4 (n := n8272) (Nat.le_trans h8278 (by decide)) (Int32.not_le.mp c8285) (cl_aux7 _ _ _ e8298 e9962) B8286 (by decide) (by decide)
                obtain ⟨z9964, ez9965⟩ : ∃ y, fd8273 (Int32.toNatClampNeg z9961) = y := ⟨_, rfl⟩
                have B9966 : sf_B 0 5 z9964 := ez9965 ▸ q9967.2.2 ▸ (cl_seat (b8283 _ q9967.2.1).2.1 h8277)
                refine pm_R_iald pm_M52 (pc_q := 10) (v := z9964) rfl (T9957.im kq8284.1 (by decide) (by decide) eE8280) (T9957.al kq8284.1 (by decide)) q9967.1 ez9965 rfl ?_
                refine pm_R_ret pm_M52 (r := some (.int z9964)) rfl (pm_ret_i _) ?_
                show pm_R _ 165 110 [.ref a, .ref a0, .ref 40, .ref t1, .ref t9, .int x5_8263, .int x6_9924] [.int z9964, .ref t9] _ _
                refine pm_R_lo pm_M165 (pc_q := 111) (pm_q165_1 (Nat.le_of_ble_eq_true rfl)) rfl rfl ?_
                refine pm_R_lo pm_M165 (pc_q := 113) (pm_q165_1 (Nat.le_of_ble_eq_true rfl)) rfl rfl ?_
                refine pm_R_cv pm_M165 (pc_q := 116) (a := a0) (ra := [.int x5_8263]) (rest := [.int z9964, .ref t9]) (ls_q := [.ref a0, .int x5_8263]) (pm_q165_1 (Nat.le_of_ble_eq_true rfl)) rfl (Or.inl rfl) pm_M147 (T9957.im hk0 (by decide) (by decide) eE8279) rfl (G.ge hk0 (by decide)) (T9957.al hk0 (by decide)) rfl rfl (Nat.le_of_ble_eq_true rfl) rfl rfl ?_
                refine pm_R_lo pm_M147 (pc_q := 1) rfl rfl rfl ?_
                refine pm_R_get pm_M147 (pc_q := 4) (v := .ref (a0 + 1)) rfl rfl (T9957.im hk0 (by decide) (by decide) eE8279) (G.ge hk0 (by decide)) (T9957.al hk0 (by decide)) rfl rfl ?_
                refine pm_R_lo pm_M147 (pc_q := 5) rfl rfl rfl ?_
                refine pm_R_op pm_M147 (pc_q := 6) (st_q := [.int 4, .int x5_8263, .ref (a0 + 1)]) rfl rfl rfl ?_
                refine sf_R_imulV pm_M147 (pc_q := 7) rfl rfl B8286 sf_k4 (by decide) (by decide) (by decide) e8298 ?_
                refine pm_R_op pm_M147 (pc_q := 8) (st_q := [.int 2, .int z8297, .ref (a0 + 1)]) rfl rfl rfl ?_
                refine sf_R_iaddV pm_M147 (pc_q := 9) rfl rfl B8299 sf_k2 (by decide) (by decide) e9942 ?_
                have q9971 := cl_in4 (n := n8272) (Nat.le_trans h8278 (by decide)) (Int32.not_le.mp c8285) (cl_aux6 _ _ _ e8298 e9942) B8286 (by decide) (by decide)
                refine pm_R_iald pm_M147 (pc_q := 10) (v := z9944) rfl (T9957.im kq8284.1 (by decide) (by decide) eE8280) (T9957.al kq8284.1 (by decide)) q9971.1 ez9945 rfl ?_
                refine pm_R_ret pm_M147 (r := some (.int z9944)) rfl (pm_ret_i _) ?_
                show pm_R _ 165 116 [.ref a, .ref a0, .ref 40, .ref t1, .ref t9, .int x5_8263, .int x6_9924] [.int z9944, .int z9964, .ref t9] _ _
                have e9972 := (F9958.tmp X_9924.2.1 (cl_nin1 ne16.symm) e9932)
                have ht9973 := (X_9924.2.1.F F9958)
                refine cl_R_tst G pm_M165 T9957 (pc_q := 117) (pm_q165_1 (Nat.le_of_ble_eq_true rfl)) e9972 ht9973 (sf_in B9966 (by decide) (by decide)) rfl (fun h9974 T9975 F9976 e9977 => ?_)
                have F9978 := F9960.transT F9976 hu15
                refine sf_R_iinc pm_M165 (pc_q := 120) (ls_q := fun z => [.ref a, .ref a0, .ref 40, .ref t1, .ref t9, .int z, .int x6_9924]) (pm_q165_1 (Nat.le_of_ble_eq_true rfl)) B8286 rfl (by decide) (by decide) (by decide) (fun _ => rfl) rfl (fun z9979 e9980 B9981 => ?_)
                show pm_R _ 165 120 [.ref a, .ref a0, .ref 40, .ref t1, .ref t9, .int z9979, .int x6_9924] [] _ _
                refine pm_R_br pm_M165 (pc_q := 20) (pm_q165_1 (Nat.le_of_ble_eq_true rfl)) rfl ?_
                have e9982 := (F9976.tmp (X_9924.1.F F9958) (cl_nin1 ne16) e9959)
                have ht9983 := ((X_9924.1.F F9958).F F9976)
                have ht9984 := (ht9973.F F9976)
                exact ih_8263 _ (sf_up hN_8263 e9980 B8286 (by decide) (by decide)) h9974 m_9924 z9979 (.int x6_9924) T9975 F9978 W9928 (sf_weak B9981 (by decide) (by decide)) rfl ⟨ht9983, ht9984, ⟨_, e9982⟩, ⟨_, e9977⟩⟩ rfl
              · have B9985 : sf_B 0 7 x6_9924 := sf_ltL (Int32.not_le.mp c9940) Bx6_9924 (sf_ofB h9935 (by decide))
                have B9986 : sf_B 1 8 (Int32.ofNat n9933) := sf_ltR (Int32.not_le.mp c9940) Bx6_9924 (sf_ofB h9935 (by decide))
                refine pm_R_lo pm_M165 (pc_q := 59) rfl rfl rfl ?_
                refine pm_R_lo pm_M165 (pc_q := 61) rfl rfl rfl ?_
                refine pm_R_lo pm_M165 (pc_q := 62) rfl rfl rfl ?_
                refine pm_R_lo pm_M165 (pc_q := 64) rfl rfl rfl ?_
                refine pm_R_lo pm_M165 (pc_q := 65) rfl rfl rfl ?_
                refine pm_R_lo pm_M165 (pc_q := 67) rfl rfl rfl ?_
                refine pm_R_cv pm_M165 (pc_q := 70) (a := a) (ra := [.ref t9, .ref t1, .int x5_8263, .ref a0, .int x6_9924]) (rest := []) (ls_q := [.ref a, .int x6_9924, .ref a0, .int x5_8263, .ref t1, .ref t9, pm_no, pm_no, pm_no, pm_no]) rfl rfl (Or.inl rfl) pm_M166 (T_9924.im hk (by decide) (by decide) eE9936) rfl (G.ge hk (by decide)) (T_9924.al hk (by decide)) rfl rfl (Nat.le_of_ble_eq_true rfl) rfl rfl ?_
                refine pm_R_lo pm_M166 (pc_q := 1) rfl rfl rfl ?_
                refine pm_R_lo pm_M166 (pc_q := 2) rfl rfl rfl ?_
                refine pm_R_cv pm_M166 (pc_q := 5) (a := a0) (ra := [.int x5_8263]) (rest := []) (ls_q := [.ref a0, .int x5_8263]) rfl rfl (Or.inl rfl) pm_M147 (T_9924.im hk0 (by decide) (by decide) eE8279) rfl (G.ge hk0 (by decide)) (T_9924.al hk0 (by decide)) rfl rfl (Nat.le_of_ble_eq_true rfl) rfl rfl ?_
                refine pm_R_lo pm_M147 (pc_q := 1) rfl rfl rfl ?_
                refine pm_R_get pm_M147 (pc_q := 4) (v := .ref (a0 + 1)) rfl rfl (T_9924.im hk0 (by decide) (by decide) eE8279) (G.ge hk0 (by decide)) (T_9924.al hk0 (by decide)) rfl rfl ?_
                refine pm_R_lo pm_M147 (pc_q := 5) rfl rfl rfl ?_
                refine pm_R_op pm_M147 (pc_q := 6) (st_q := [.int 4, .int x5_8263, .ref (a0 + 1)]) rfl rfl rfl ?_
                refine sf_R_imulV pm_M147 (pc_q := 7) rfl rfl B8286 sf_k4 (by decide) (by decide) (by decide) e8298 ?_
                refine pm_R_op pm_M147 (pc_q := 8) (st_q := [.int 2, .int z8297, .ref (a0 + 1)]) rfl rfl rfl ?_
                refine sf_R_iadd pm_M147 (pc_q := 9) rfl rfl B8299 sf_k2 (by decide) (by decide) (fun z9987 e9988 B9989 => ?_)
                have q9993 := cl_in4 (n := n8272) (Nat.le_trans h8278 (by decide)) (Int32.not_le.mp c8285) (cl_aux6 _ _ _ e8298 e9988) B8286 (by decide) (by decide)
                obtain ⟨z9990, ez9991⟩ : ∃ y, fd8273 (Int32.toNatClampNeg z9987) = y := ⟨_, rfl⟩
                have B9992 : sf_B (-1) 9 z9990 := ez9991 ▸ q9993.2.2 ▸ (b8283 _ q9993.2.1).2.2.1
                have B9994 : sf_B 0 9 z9990 := cl_sign (b8283 _ q9993.2.1).2.2.2 q8303.2.2 ez8301 (Classical.not_not.mp c8304) q9993.2.2 ez9991 B9992 (by decide)
                refine pm_R_iald pm_M147 (pc_q := 10) (v := z9990) rfl (T_9924.im kq8284.1 (by decide) (by decide) eE8280) (T_9924.al kq8284.1 (by decide)) q9993.1 ez9991 rfl ?_
                refine pm_R_ret pm_M147 (r := some (.int z9990)) rfl (pm_ret_i _) ?_
                show pm_R _ 166 5 [.ref a, .int x6_9924, .ref a0, .int x5_8263, .ref t1, .ref t9, pm_no, pm_no, pm_no, pm_no] [.int z9990] _ _
                refine pm_R_lo pm_M166 (pc_q := 7) (ls_q := [.ref a, .int x6_9924, .ref a0, .int x5_8263, .ref t1, .ref t9, .int z9990, pm_no, pm_no, pm_no]) (st_q := []) rfl rfl rfl ?_
                refine pm_R_lo pm_M166 (pc_q := 8) rfl rfl rfl ?_
                refine pm_R_lo pm_M166 (pc_q := 9) rfl rfl rfl ?_
                refine pm_R_cv pm_M166 (pc_q := 12) (a := a0) (ra := [.int x5_8263]) (rest := []) (ls_q := [.ref a0, .int x5_8263]) rfl rfl (Or.inl rfl) pm_M52 (T_9924.im hk0 (by decide) (by decide) eE8279) rfl (G.ge hk0 (by decide)) (T_9924.al hk0 (by decide)) rfl rfl (Nat.le_of_ble_eq_true rfl) rfl rfl ?_
                refine pm_R_lo pm_M52 (pc_q := 1) rfl rfl rfl ?_
                refine pm_R_get pm_M52 (pc_q := 4) (v := .ref (a0 + 1)) rfl rfl (T_9924.im hk0 (by decide) (by decide) eE8279) (G.ge hk0 (by decide)) (T_9924.al hk0 (by decide)) rfl rfl ?_
                refine pm_R_lo pm_M52 (pc_q := 5) rfl rfl rfl ?_
                refine pm_R_op pm_M52 (pc_q := 6) (st_q := [.int 4, .int x5_8263, .ref (a0 + 1)]) rfl rfl rfl ?_
                refine sf_R_imulV pm_M52 (pc_q := 7) rfl rfl B8286 sf_k4 (by decide) (by decide) (by decide) e8298 ?_
                refine pm_R_op pm_M52 (pc_q := 8) (st_q := [.int 1, .int z8297, .ref (a0 + 1)]) rfl rfl rfl ?_
                refine sf_R_iadd pm_M52 (pc_q := 9) rfl rfl B8299 sf_k1 (by decide) (by decide) (fun z9995 e9996 B9997 => ?_)
                have q10001 := cl_in4 (n := n8272) (Nat.le_trans h8278 (by decide)) (Int32.not_le.mp c8285) (cl_aux7 _ _ _ e8298 e9996) B8286 (by decide) (by decide)
                obtain ⟨z9998, ez9999⟩ : ∃ y, fd8273 (Int32.toNatClampNeg z9995) = y := ⟨_, rfl⟩
                have B10000 : sf_B 0 5 z9998 := ez9999 ▸ q10001.2.2 ▸ (cl_seat (b8283 _ q10001.2.1).2.1 h8277)
                refine pm_R_iald pm_M52 (pc_q := 10) (v := z9998) rfl (T_9924.im kq8284.1 (by decide) (by decide) eE8280) (T_9924.al kq8284.1 (by decide)) q10001.1 ez9999 rfl ?_
                refine pm_R_ret pm_M52 (r := some (.int z9998)) rfl (pm_ret_i _) ?_
                show pm_R _ 166 12 [.ref a, .int x6_9924, .ref a0, .int x5_8263, .ref t1, .ref t9, .int z9990, pm_no, pm_no, pm_no] [.int z9998] _ _
                refine pm_R_lo pm_M166 (pc_q := 14) (ls_q := [.ref a, .int x6_9924, .ref a0, .int x5_8263, .ref t1, .ref t9, .int z9990, .int z9998, pm_no, pm_no]) (st_q := []) rfl rfl rfl ?_
                refine pm_R_lo pm_M166 (pc_q := 15) rfl rfl rfl ?_
                refine pm_R_get pm_M166 (pc_q := 18) (v := .ref (a + 1)) rfl rfl (T_9924.im hk (by decide) (by decide) eE9936) (G.ge hk (by decide)) (T_9924.al hk (by decide)) rfl rfl ?_
                refine pm_R_lo pm_M166 (pc_q := 19) rfl rfl rfl ?_
                refine pm_R_op pm_M166 (pc_q := 20) (st_q := [.int 4, .int x6_9924, .ref (a + 1)]) rfl rfl rfl ?_
                refine sf_R_imul pm_M166 (pc_q := 21) rfl rfl B9985 sf_k4 (by decide) (by decide) (by decide) (fun z10002 e10003 B10004 => ?_)
                refine pm_R_op pm_M166 (pc_q := 22) (st_q := [.int 1, .int z10002, .ref (a + 1)]) rfl rfl rfl ?_
                refine sf_R_iadd pm_M166 (pc_q := 23) rfl rfl B10004 sf_k1 (by decide) (by decide) (fun z10005 e10006 B10007 => ?_)
                have q10011 := cl_in4 (n := n9933) (Nat.le_trans h9935 (by decide)) (Int32.not_le.mp c9940) (cl_aux7 _ _ _ e10003 e10006) B9985 (by decide) (by decide)
                obtain ⟨z10008, ez10009⟩ : ∃ y, f9934 (Int32.toNatClampNeg z10005) = y := ⟨_, rfl⟩
                have B10010 : sf_B 0 9 z10008 := ez10009 ▸ q10011.2.2 ▸ (b9938 _ q10011.2.1).2.1
                refine pm_R_iald pm_M166 (pc_q := 24) (v := z10008) rfl (T_9924.im kq9939 (by decide) (by decide) eE9937) (T_9924.al kq9939 (by decide)) q10011.1 ez10009 rfl ?_
                refine pm_R_lo pm_M166 (pc_q := 26) (ls_q := [.ref a, .int x6_9924, .ref a0, .int x5_8263, .ref t1, .ref t9, .int z9990, .int z9998, .int z10008, pm_no]) (st_q := []) rfl rfl rfl ?_
                refine pm_R_lo pm_M166 (pc_q := 27) rfl rfl rfl ?_
                refine pm_R_get pm_M166 (pc_q := 30) (v := .ref (a + 1)) rfl rfl (T_9924.im hk (by decide) (by decide) eE9936) (G.ge hk (by decide)) (T_9924.al hk (by decide)) rfl rfl ?_
                refine pm_R_lo pm_M166 (pc_q := 31) rfl rfl rfl ?_
                refine pm_R_op pm_M166 (pc_q := 32) (st_q := [.int 4, .int x6_9924, .ref (a + 1)]) rfl rfl rfl ?_
                refine sf_R_imulV pm_M166 (pc_q := 33) rfl rfl B9985 sf_k4 (by decide) (by decide) (by decide) e10003 ?_
                refine pm_R_op pm_M166 (pc_q := 34) (st_q := [.int 2, .int z10002, .ref (a + 1)]) rfl rfl rfl ?_
                refine sf_R_iadd pm_M166 (pc_q := 35) rfl rfl B10004 sf_k2 (by decide) (by decide) (fun z10012 e10013 B10014 => ?_)
                have q10018 := cl_in4 (n := n9933) (Nat.le_trans h9935 (by decide)) (Int32.not_le.mp c9940) (cl_aux6 _ _ _ e10003 e10013) B9985 (by decide) (by decide)
                obtain ⟨z10015, ez10016⟩ : ∃ y, f9934 (Int32.toNatClampNeg z10012) = y := ⟨_, rfl⟩
                have B10017 : sf_B (-1) 9 z10015 := ez10016 ▸ q10018.2.2 ▸ (b9938 _ q10018.2.1).2.2
                refine pm_R_iald pm_M166 (pc_q := 36) (v := z10015) rfl (T_9924.im kq9939 (by decide) (by decide) eE9937) (T_9924.al kq9939 (by decide)) q10018.1 ez10016 rfl ?_
                refine pm_R_lo pm_M166 (pc_q := 38) (ls_q := [.ref a, .int x6_9924, .ref a0, .int x5_8263, .ref t1, .ref t9, .int z9990, .int z9998, .int z10008, .int z10015]) (st_q := []) rfl rfl rfl ?_
                refine pm_R_lo pm_M166 (pc_q := 39) rfl rfl rfl ?_
                refine pm_R_get pm_M166 (pc_q := 42) (v := .ref (a + 1)) rfl rfl (T_9924.im hk (by decide) (by decide) eE9936) (G.ge hk (by decide)) (T_9924.al hk (by decide)) rfl rfl ?_
                refine pm_R_lo pm_M166 (pc_q := 43) rfl rfl rfl ?_
                refine pm_R_op pm_M166 (pc_q := 44) (st_q := [.int 4, .int x6_9924, .ref (a + 1)]) rfl rfl rfl ?_
                refine sf_R_imulV pm_M166 (pc_q := 45) rfl rfl B9985 sf_k4 (by decide) (by decide) (by decide) e10003 ?_
                have q10022 := cl_in4 (n := n9933) (Nat.le_trans h9935 (by decide)) (Int32.not_le.mp c9940) (cl_aux5 _ _ e10003) B9985 (by decide) (by decide)
                obtain ⟨z10019, ez10020⟩ : ∃ y, f9934 (Int32.toNatClampNeg z10002) = y := ⟨_, rfl⟩
                have B10021 : sf_B 0 5 z10019 := ez10020 ▸ q10022.2.2 ▸ (b9938 _ q10022.2.1).1
                refine pm_R_iald pm_M166 (pc_q := 46) (v := z10019) rfl (T_9924.im kq9939 (by decide) (by decide) eE9937) (T_9924.al kq9939 (by decide)) q10022.1 ez10020 rfl ?_
                by_cases c10023 : z10019 = 0
                · rw [c10023]
                  refine pm_R_br pm_M166 (pc_q := 80) (st_q := []) rfl rfl ?_
                  refine pm_R_lo pm_M166 (pc_q := 82) rfl rfl rfl ?_
                  refine pm_R_lo pm_M166 (pc_q := 84) rfl rfl rfl ?_
                  refine pm_R_icmp pm_M166 (t := 91) (pc_q := 87) rfl rfl rfl (fun c10024 => ?_) (fun c10024 => ?_)
                  · skip
                    refine pm_R_op pm_M166 (pc_q := 92) (st_q := [.int 0]) rfl rfl rfl ?_
                    refine pm_R_ret pm_M166 (r := some (.int 0)) rfl rfl ?_
                    show pm_R _ 165 70 [.ref a, .ref a0, .ref 40, .ref t1, .ref t9, .int x5_8263, .int x6_9924] [.int 0] _ _
                    refine pm_R_br pm_M165 (pc_q := 84) (st_q := []) rfl rfl ?_
                    refine sf_R_iinc pm_M165 (pc_q := 87) (ls_q := fun z => [.ref a, .ref a0, .ref 40, .ref t1, .ref t9, .int x5_8263, .int z]) rfl B9985 rfl (by decide) (by decide) (by decide) (fun _ => rfl) rfl (fun z10025 e10026 B10027 => ?_)
                    show pm_R _ 165 87 [.ref a, .ref a0, .ref 40, .ref t1, .ref t9, .int x5_8263, .int z10025] [] _ _
                    refine pm_R_br pm_M165 (pc_q := 49) rfl rfl ?_
                    exact ih_9924 _ (sf_up hN_9924 e10026 B9985 (by decide) (by decide)) h_9924 m_9924 z10025 T_9924 F_9924 W_9924 (sf_weak B10027 (by decide) (by decide)) ⟨X_9924.1, X_9924.2.1, ⟨_, e9930⟩, ⟨_, e9932⟩⟩ rfl
                  · refine pm_R_op pm_M166 (pc_q := 88) (st_q := [.int 1]) rfl rfl rfl ?_
                    refine pm_R_br pm_M166 (pc_q := 92) rfl rfl ?_
                    refine pm_R_ret pm_M166 (r := some (.int 1)) rfl rfl ?_
                    show pm_R _ 165 70 [.ref a, .ref a0, .ref 40, .ref t1, .ref t9, .int x5_8263, .int x6_9924] [.int 1] _ _
                    refine pm_R_br pm_M165 (pc_q := 73) (st_q := []) rfl rfl ?_
                    refine pm_R_lo pm_M165 (pc_q := 74) rfl rfl rfl ?_
                    refine pm_R_lo pm_M165 (pc_q := 76) rfl rfl rfl ?_
                    refine pm_R_op pm_M165 (pc_q := 77) (st_q := [.int x5_8263, .ref 40, .int x5_8263, .ref 40]) rfl rfl rfl ?_
                    obtain ⟨f10031, e10032⟩ := T_9924.C 40 (by decide) (by decide)
                    obtain ⟨z10028, ez10029⟩ : ∃ y, f10031 (Int32.toNatClampNeg x5_8263) = y := ⟨_, rfl⟩
                    refine pm_R_iald pm_M165 (pc_q := 78) (v := z10028) rfl e10032 (T_9924.lt (by decide)) (sf_in B8286 (by decide) (by decide)) ez10029 rfl ?_
                    refine pm_R_op pm_M165 (pc_q := 79) (st_q := [.int 1, .int z10028, .int x5_8263, .ref 40]) rfl rfl rfl ?_
                    refine pm_R_lo pm_M165 (pc_q := 81) rfl rfl rfl ?_
                    refine sf_R_iany pm_M165 (pc_q := 82) (st := [.int z10028, .int x5_8263, .ref 40]) rfl rfl rfl (fun z10037 => ?_)
                    refine sf_R_iany pm_M165 (pc_q := 83) (st := [.int x5_8263, .ref 40]) rfl rfl rfl (fun z10041 => ?_)
                    refine cl_R_ist G pm_M165 T_9924 (pc_q := 84) rfl e10032 (by decide) ⟨_, rfl⟩ (sf_in B8286 (by decide) (by decide)) rfl (fun h10042 T10043 F10044 e10045 => ?_)
                    have F10046 := F10044.cl (ck := ck) T_9924.1
                    have F10047 := F_9924.trans (N := 2) (S := 16) F10046 (by decide) (by decide) (by decide)
                    refine sf_R_iinc pm_M165 (pc_q := 87) (ls_q := fun z => [.ref a, .ref a0, .ref 40, .ref t1, .ref t9, .int x5_8263, .int z]) rfl B9985 rfl (by decide) (by decide) (by decide) (fun _ => rfl) rfl (fun z10048 e10049 B10050 => ?_)
                    show pm_R _ 165 87 [.ref a, .ref a0, .ref 40, .ref t1, .ref t9, .int x5_8263, .int z10048] [] _ _
                    refine pm_R_br pm_M165 (pc_q := 49) rfl rfl ?_
                    have e10051 := (F10046.tmp X_9924.1 (cl_tA X_9924.1 (by decide)) e9930)
                    have e10052 := (F10046.tmp X_9924.2.1 (cl_tA X_9924.2.1 (by decide)) e9932)
                    have ht10053 := (X_9924.1.F F10046)
                    have ht10054 := (X_9924.2.1.F F10046)
                    exact ih_9924 _ (sf_up hN_9924 e10049 B9985 (by decide) (by decide)) h10042 m_9924 z10048 T10043 F10047 W_9924 (sf_weak B10050 (by decide) (by decide)) ⟨ht10053, ht10054, ⟨_, e10051⟩, ⟨_, e10052⟩⟩ rfl
                have B10055 : sf_B 1 5 z10019 := sf_neL0 c10023 sf_k0 B10021
                by_cases c10056 : z10019 = 1
                · rw [c10056]
                  refine pm_R_br pm_M166 (pc_q := 93) (st_q := []) rfl rfl ?_
                  refine pm_R_lo pm_M166 (pc_q := 95) rfl rfl rfl ?_
                  refine pm_R_lo pm_M166 (pc_q := 97) rfl rfl rfl ?_
                  refine pm_R_icmp pm_M166 (t := 114) (pc_q := 100) rfl rfl rfl (fun c10057 => ?_) (fun c10057 => ?_)
                  · skip
                    refine pm_R_op pm_M166 (pc_q := 115) (st_q := [.int 0]) rfl rfl rfl ?_
                    refine pm_R_ret pm_M166 (r := some (.int 0)) rfl rfl ?_
                    show pm_R _ 165 70 [.ref a, .ref a0, .ref 40, .ref t1, .ref t9, .int x5_8263, .int x6_9924] [.int 0] _ _
                    refine pm_R_br pm_M165 (pc_q := 84) (st_q := []) rfl rfl ?_
                    refine sf_R_iinc pm_M165 (pc_q := 87) (ls_q := fun z => [.ref a, .ref a0, .ref 40, .ref t1, .ref t9, .int x5_8263, .int z]) rfl B9985 rfl (by decide) (by decide) (by decide) (fun _ => rfl) rfl (fun z10058 e10059 B10060 => ?_)
                    show pm_R _ 165 87 [.ref a, .ref a0, .ref 40, .ref t1, .ref t9, .int x5_8263, .int z10058] [] _ _
                    refine pm_R_br pm_M165 (pc_q := 49) rfl rfl ?_
                    exact ih_9924 _ (sf_up hN_9924 e10059 B9985 (by decide) (by decide)) h_9924 m_9924 z10058 T_9924 F_9924 W_9924 (sf_weak B10060 (by decide) (by decide)) ⟨X_9924.1, X_9924.2.1, ⟨_, e9930⟩, ⟨_, e9932⟩⟩ rfl
                  · refine pm_R_lo pm_M166 (pc_q := 102) rfl rfl rfl ?_
                    refine pm_R_lo pm_M166 (pc_q := 104) rfl rfl rfl ?_
                    obtain ⟨z10061, ez10062⟩ : ∃ y, f9929 (Int32.toNatClampNeg z9990) = y := ⟨_, rfl⟩
                    refine pm_R_iald pm_M166 (pc_q := 105) (v := z10061) rfl e9930 X_9924.1.2.2 (sf_in B9994 (by decide) (by decide)) ez10062 rfl ?_
                    refine pm_R_lo pm_M166 (pc_q := 107) rfl rfl rfl ?_
                    refine pm_R_icmp pm_M166 (t := 114) (pc_q := 110) rfl rfl rfl (fun c10064 => ?_) (fun c10064 => ?_)
                    · have B10065 : sf_B (-2147483648) 8 z10061 := sf_ltL c10064 (sf_any z10061) B10017
                      refine pm_R_op pm_M166 (pc_q := 115) (st_q := [.int 0]) rfl rfl rfl ?_
                      refine pm_R_ret pm_M166 (r := some (.int 0)) rfl rfl ?_
                      show pm_R _ 165 70 [.ref a, .ref a0, .ref 40, .ref t1, .ref t9, .int x5_8263, .int x6_9924] [.int 0] _ _
                      refine pm_R_br pm_M165 (pc_q := 84) (st_q := []) rfl rfl ?_
                      refine sf_R_iinc pm_M165 (pc_q := 87) (ls_q := fun z => [.ref a, .ref a0, .ref 40, .ref t1, .ref t9, .int x5_8263, .int z]) rfl B9985 rfl (by decide) (by decide) (by decide) (fun _ => rfl) rfl (fun z10066 e10067 B10068 => ?_)
                      show pm_R _ 165 87 [.ref a, .ref a0, .ref 40, .ref t1, .ref t9, .int x5_8263, .int z10066] [] _ _
                      refine pm_R_br pm_M165 (pc_q := 49) rfl rfl ?_
                      exact ih_9924 _ (sf_up hN_9924 e10067 B9985 (by decide) (by decide)) h_9924 m_9924 z10066 T_9924 F_9924 W_9924 (sf_weak B10068 (by decide) (by decide)) ⟨X_9924.1, X_9924.2.1, ⟨_, e9930⟩, ⟨_, e9932⟩⟩ rfl
                    · have B10069 : sf_B (-1) 2147483647 z10061 := sf_leR (Int32.not_lt.mp c10064) B10017 (sf_any z10061)
                      refine pm_R_op pm_M166 (pc_q := 111) (st_q := [.int 1]) rfl rfl rfl ?_
                      refine pm_R_br pm_M166 (pc_q := 115) rfl rfl ?_
                      refine pm_R_ret pm_M166 (r := some (.int 1)) rfl rfl ?_
                      show pm_R _ 165 70 [.ref a, .ref a0, .ref 40, .ref t1, .ref t9, .int x5_8263, .int x6_9924] [.int 1] _ _
                      refine pm_R_br pm_M165 (pc_q := 73) (st_q := []) rfl rfl ?_
                      refine pm_R_lo pm_M165 (pc_q := 74) rfl rfl rfl ?_
                      refine pm_R_lo pm_M165 (pc_q := 76) rfl rfl rfl ?_
                      refine pm_R_op pm_M165 (pc_q := 77) (st_q := [.int x5_8263, .ref 40, .int x5_8263, .ref 40]) rfl rfl rfl ?_
                      obtain ⟨f10073, e10074⟩ := T_9924.C 40 (by decide) (by decide)
                      obtain ⟨z10070, ez10071⟩ : ∃ y, f10073 (Int32.toNatClampNeg x5_8263) = y := ⟨_, rfl⟩
                      refine pm_R_iald pm_M165 (pc_q := 78) (v := z10070) rfl e10074 (T_9924.lt (by decide)) (sf_in B8286 (by decide) (by decide)) ez10071 rfl ?_
                      refine pm_R_op pm_M165 (pc_q := 79) (st_q := [.int 1, .int z10070, .int x5_8263, .ref 40]) rfl rfl rfl ?_
                      refine pm_R_lo pm_M165 (pc_q := 81) rfl rfl rfl ?_
                      refine sf_R_iany pm_M165 (pc_q := 82) (st := [.int z10070, .int x5_8263, .ref 40]) rfl rfl rfl (fun z10079 => ?_)
                      refine sf_R_iany pm_M165 (pc_q := 83) (st := [.int x5_8263, .ref 40]) rfl rfl rfl (fun z10083 => ?_)
                      refine cl_R_ist G pm_M165 T_9924 (pc_q := 84) rfl e10074 (by decide) ⟨_, rfl⟩ (sf_in B8286 (by decide) (by decide)) rfl (fun h10084 T10085 F10086 e10087 => ?_)
                      have F10088 := F10086.cl (ck := ck) T_9924.1
                      have F10089 := F_9924.trans (N := 2) (S := 16) F10088 (by decide) (by decide) (by decide)
                      refine sf_R_iinc pm_M165 (pc_q := 87) (ls_q := fun z => [.ref a, .ref a0, .ref 40, .ref t1, .ref t9, .int x5_8263, .int z]) rfl B9985 rfl (by decide) (by decide) (by decide) (fun _ => rfl) rfl (fun z10090 e10091 B10092 => ?_)
                      show pm_R _ 165 87 [.ref a, .ref a0, .ref 40, .ref t1, .ref t9, .int x5_8263, .int z10090] [] _ _
                      refine pm_R_br pm_M165 (pc_q := 49) rfl rfl ?_
                      have e10093 := (F10088.tmp X_9924.1 (cl_tA X_9924.1 (by decide)) e9930)
                      have e10094 := (F10088.tmp X_9924.2.1 (cl_tA X_9924.2.1 (by decide)) e9932)
                      have ht10095 := (X_9924.1.F F10088)
                      have ht10096 := (X_9924.2.1.F F10088)
                      exact ih_9924 _ (sf_up hN_9924 e10091 B9985 (by decide) (by decide)) h10084 m_9924 z10090 T10085 F10089 W_9924 (sf_weak B10092 (by decide) (by decide)) ⟨ht10095, ht10096, ⟨_, e10093⟩, ⟨_, e10094⟩⟩ rfl
                have B10097 : sf_B 2 5 z10019 := sf_neL0 c10056 sf_k1 B10055
                by_cases c10098 : z10019 = 2
                · rw [c10098]
                  refine pm_R_br pm_M166 (pc_q := 116) (st_q := []) rfl rfl ?_
                  refine pm_R_lo pm_M166 (pc_q := 118) rfl rfl rfl ?_
                  refine pm_R_lo pm_M166 (pc_q := 120) rfl rfl rfl ?_
                  refine pm_R_icmp pm_M166 (t := 135) (pc_q := 123) rfl rfl rfl (fun c10099 => ?_) (fun c10099 => ?_)
                  · skip
                    refine pm_R_op pm_M166 (pc_q := 136) (st_q := [.int 0]) (pm_q166_1 (Nat.le_of_ble_eq_true rfl)) rfl rfl ?_
                    refine pm_R_ret pm_M166 (r := some (.int 0)) (pm_q166_1 (Nat.le_of_ble_eq_true rfl)) rfl ?_
                    show pm_R _ 165 70 [.ref a, .ref a0, .ref 40, .ref t1, .ref t9, .int x5_8263, .int x6_9924] [.int 0] _ _
                    refine pm_R_br pm_M165 (pc_q := 84) (st_q := []) rfl rfl ?_
                    refine sf_R_iinc pm_M165 (pc_q := 87) (ls_q := fun z => [.ref a, .ref a0, .ref 40, .ref t1, .ref t9, .int x5_8263, .int z]) rfl B9985 rfl (by decide) (by decide) (by decide) (fun _ => rfl) rfl (fun z10100 e10101 B10102 => ?_)
                    show pm_R _ 165 87 [.ref a, .ref a0, .ref 40, .ref t1, .ref t9, .int x5_8263, .int z10100] [] _ _
                    refine pm_R_br pm_M165 (pc_q := 49) rfl rfl ?_
                    exact ih_9924 _ (sf_up hN_9924 e10101 B9985 (by decide) (by decide)) h_9924 m_9924 z10100 T_9924 F_9924 W_9924 (sf_weak B10102 (by decide) (by decide)) ⟨X_9924.1, X_9924.2.1, ⟨_, e9930⟩, ⟨_, e9932⟩⟩ rfl
                  · have B10103 : sf_B 0 9 z10015 := sf_eqR (Classical.not_not.mp c10099) B9994
                    refine pm_R_lo pm_M166 (pc_q := 125) rfl rfl rfl ?_
                    refine pm_R_lo pm_M166 (pc_q := 127) rfl rfl rfl ?_
                    obtain ⟨z10104, ez10105⟩ : ∃ y, f9929 (Int32.toNatClampNeg z10008) = y := ⟨_, rfl⟩
                    refine pm_R_iald pm_M166 (pc_q := 128) (v := z10104) rfl e9930 X_9924.1.2.2 (sf_in B10010 (by decide) (by decide)) ez10105 rfl ?_
                    refine pm_R_ifc pm_M166 (t := 135) (pc_q := 131) rfl rfl rfl (fun c10107 => ?_) (fun c10107 => ?_)
                    · skip
                      refine pm_R_op pm_M166 (pc_q := 136) (st_q := [.int 0]) (pm_q166_1 (Nat.le_of_ble_eq_true rfl)) rfl rfl ?_
                      refine pm_R_ret pm_M166 (r := some (.int 0)) (pm_q166_1 (Nat.le_of_ble_eq_true rfl)) rfl ?_
                      show pm_R _ 165 70 [.ref a, .ref a0, .ref 40, .ref t1, .ref t9, .int x5_8263, .int x6_9924] [.int 0] _ _
                      refine pm_R_br pm_M165 (pc_q := 84) (st_q := []) rfl rfl ?_
                      refine sf_R_iinc pm_M165 (pc_q := 87) (ls_q := fun z => [.ref a, .ref a0, .ref 40, .ref t1, .ref t9, .int x5_8263, .int z]) rfl B9985 rfl (by decide) (by decide) (by decide) (fun _ => rfl) rfl (fun z10108 e10109 B10110 => ?_)
                      show pm_R _ 165 87 [.ref a, .ref a0, .ref 40, .ref t1, .ref t9, .int x5_8263, .int z10108] [] _ _
                      refine pm_R_br pm_M165 (pc_q := 49) rfl rfl ?_
                      exact ih_9924 _ (sf_up hN_9924 e10109 B9985 (by decide) (by decide)) h_9924 m_9924 z10108 T_9924 F_9924 W_9924 (sf_weak B10110 (by decide) (by decide)) ⟨X_9924.1, X_9924.2.1, ⟨_, e9930⟩, ⟨_, e9932⟩⟩ rfl
                    · have B10111 : sf_B 0 0 z10104 := sf_eqL (Classical.not_not.mp c10107) sf_k0
                      refine pm_R_op pm_M166 (pc_q := 132) (st_q := [.int 1]) rfl rfl rfl ?_
                      refine pm_R_br pm_M166 (pc_q := 136) (pm_q166_1 (Nat.le_of_ble_eq_true rfl)) rfl ?_
                      refine pm_R_ret pm_M166 (r := some (.int 1)) (pm_q166_1 (Nat.le_of_ble_eq_true rfl)) rfl ?_
                      show pm_R _ 165 70 [.ref a, .ref a0, .ref 40, .ref t1, .ref t9, .int x5_8263, .int x6_9924] [.int 1] _ _
                      refine pm_R_br pm_M165 (pc_q := 73) (st_q := []) rfl rfl ?_
                      refine pm_R_lo pm_M165 (pc_q := 74) rfl rfl rfl ?_
                      refine pm_R_lo pm_M165 (pc_q := 76) rfl rfl rfl ?_
                      refine pm_R_op pm_M165 (pc_q := 77) (st_q := [.int x5_8263, .ref 40, .int x5_8263, .ref 40]) rfl rfl rfl ?_
                      obtain ⟨f10115, e10116⟩ := T_9924.C 40 (by decide) (by decide)
                      obtain ⟨z10112, ez10113⟩ : ∃ y, f10115 (Int32.toNatClampNeg x5_8263) = y := ⟨_, rfl⟩
                      refine pm_R_iald pm_M165 (pc_q := 78) (v := z10112) rfl e10116 (T_9924.lt (by decide)) (sf_in B8286 (by decide) (by decide)) ez10113 rfl ?_
                      refine pm_R_op pm_M165 (pc_q := 79) (st_q := [.int 1, .int z10112, .int x5_8263, .ref 40]) rfl rfl rfl ?_
                      refine pm_R_lo pm_M165 (pc_q := 81) rfl rfl rfl ?_
                      refine sf_R_iany pm_M165 (pc_q := 82) (st := [.int z10112, .int x5_8263, .ref 40]) rfl rfl rfl (fun z10121 => ?_)
                      refine sf_R_iany pm_M165 (pc_q := 83) (st := [.int x5_8263, .ref 40]) rfl rfl rfl (fun z10125 => ?_)
                      refine cl_R_ist G pm_M165 T_9924 (pc_q := 84) rfl e10116 (by decide) ⟨_, rfl⟩ (sf_in B8286 (by decide) (by decide)) rfl (fun h10126 T10127 F10128 e10129 => ?_)
                      have F10130 := F10128.cl (ck := ck) T_9924.1
                      have F10131 := F_9924.trans (N := 2) (S := 16) F10130 (by decide) (by decide) (by decide)
                      refine sf_R_iinc pm_M165 (pc_q := 87) (ls_q := fun z => [.ref a, .ref a0, .ref 40, .ref t1, .ref t9, .int x5_8263, .int z]) rfl B9985 rfl (by decide) (by decide) (by decide) (fun _ => rfl) rfl (fun z10132 e10133 B10134 => ?_)
                      show pm_R _ 165 87 [.ref a, .ref a0, .ref 40, .ref t1, .ref t9, .int x5_8263, .int z10132] [] _ _
                      refine pm_R_br pm_M165 (pc_q := 49) rfl rfl ?_
                      have e10135 := (F10130.tmp X_9924.1 (cl_tA X_9924.1 (by decide)) e9930)
                      have e10136 := (F10130.tmp X_9924.2.1 (cl_tA X_9924.2.1 (by decide)) e9932)
                      have ht10137 := (X_9924.1.F F10130)
                      have ht10138 := (X_9924.2.1.F F10130)
                      exact ih_9924 _ (sf_up hN_9924 e10133 B9985 (by decide) (by decide)) h10126 m_9924 z10132 T10127 F10131 W_9924 (sf_weak B10134 (by decide) (by decide)) ⟨ht10137, ht10138, ⟨_, e10135⟩, ⟨_, e10136⟩⟩ rfl
                have B10139 : sf_B 3 5 z10019 := sf_neL0 c10098 sf_k2 B10097
                by_cases c10140 : z10019 = 3
                · rw [c10140]
                  refine pm_R_br pm_M166 (pc_q := 137) (st_q := []) rfl rfl ?_
                  refine pm_R_lo pm_M166 (pc_q := 139) (pm_q166_1 (Nat.le_of_ble_eq_true rfl)) rfl rfl ?_
                  refine pm_R_lo pm_M166 (pc_q := 141) (pm_q166_1 (Nat.le_of_ble_eq_true rfl)) rfl rfl ?_
                  refine pm_R_icmp pm_M166 (t := 158) (pc_q := 144) (pm_q166_1 (Nat.le_of_ble_eq_true rfl)) rfl rfl (fun c10141 => ?_) (fun c10141 => ?_)
                  · skip
                    refine pm_R_op pm_M166 (pc_q := 159) (st_q := [.int 0]) (pm_q166_1 (Nat.le_of_ble_eq_true rfl)) rfl rfl ?_
                    refine pm_R_ret pm_M166 (r := some (.int 0)) (pm_q166_1 (Nat.le_of_ble_eq_true rfl)) rfl ?_
                    show pm_R _ 165 70 [.ref a, .ref a0, .ref 40, .ref t1, .ref t9, .int x5_8263, .int x6_9924] [.int 0] _ _
                    refine pm_R_br pm_M165 (pc_q := 84) (st_q := []) rfl rfl ?_
                    refine sf_R_iinc pm_M165 (pc_q := 87) (ls_q := fun z => [.ref a, .ref a0, .ref 40, .ref t1, .ref t9, .int x5_8263, .int z]) rfl B9985 rfl (by decide) (by decide) (by decide) (fun _ => rfl) rfl (fun z10142 e10143 B10144 => ?_)
                    show pm_R _ 165 87 [.ref a, .ref a0, .ref 40, .ref t1, .ref t9, .int x5_8263, .int z10142] [] _ _
                    refine pm_R_br pm_M165 (pc_q := 49) rfl rfl ?_
                    exact ih_9924 _ (sf_up hN_9924 e10143 B9985 (by decide) (by decide)) h_9924 m_9924 z10142 T_9924 F_9924 W_9924 (sf_weak B10144 (by decide) (by decide)) ⟨X_9924.1, X_9924.2.1, ⟨_, e9930⟩, ⟨_, e9932⟩⟩ rfl
                  · have B10145 : sf_B 0 9 z10015 := sf_eqR (Classical.not_not.mp c10141) B9994
                    refine pm_R_lo pm_M166 (pc_q := 146) (pm_q166_1 (Nat.le_of_ble_eq_true rfl)) rfl rfl ?_
                    refine pm_R_lo pm_M166 (pc_q := 148) (pm_q166_1 (Nat.le_of_ble_eq_true rfl)) rfl rfl ?_
                    obtain ⟨z10146, ez10147⟩ : ∃ y, f9931 (Int32.toNatClampNeg z9998) = y := ⟨_, rfl⟩
                    refine pm_R_iald pm_M166 (pc_q := 149) (v := z10146) (pm_q166_1 (Nat.le_of_ble_eq_true rfl)) e9932 X_9924.2.1.2.2 (sf_in B10000 (by decide) (by decide)) ez10147 rfl ?_
                    refine pm_R_lo pm_M166 (pc_q := 151) (pm_q166_1 (Nat.le_of_ble_eq_true rfl)) rfl rfl ?_
                    refine pm_R_icmp pm_M166 (t := 158) (pc_q := 154) (pm_q166_1 (Nat.le_of_ble_eq_true rfl)) rfl rfl (fun c10149 => ?_) (fun c10149 => ?_)
                    · skip
                      refine pm_R_op pm_M166 (pc_q := 159) (st_q := [.int 0]) (pm_q166_1 (Nat.le_of_ble_eq_true rfl)) rfl rfl ?_
                      refine pm_R_ret pm_M166 (r := some (.int 0)) (pm_q166_1 (Nat.le_of_ble_eq_true rfl)) rfl ?_
                      show pm_R _ 165 70 [.ref a, .ref a0, .ref 40, .ref t1, .ref t9, .int x5_8263, .int x6_9924] [.int 0] _ _
                      refine pm_R_br pm_M165 (pc_q := 84) (st_q := []) rfl rfl ?_
                      refine sf_R_iinc pm_M165 (pc_q := 87) (ls_q := fun z => [.ref a, .ref a0, .ref 40, .ref t1, .ref t9, .int x5_8263, .int z]) rfl B9985 rfl (by decide) (by decide) (by decide) (fun _ => rfl) rfl (fun z10150 e10151 B10152 => ?_)
                      show pm_R _ 165 87 [.ref a, .ref a0, .ref 40, .ref t1, .ref t9, .int x5_8263, .int z10150] [] _ _
                      refine pm_R_br pm_M165 (pc_q := 49) rfl rfl ?_
                      exact ih_9924 _ (sf_up hN_9924 e10151 B9985 (by decide) (by decide)) h_9924 m_9924 z10150 T_9924 F_9924 W_9924 (sf_weak B10152 (by decide) (by decide)) ⟨X_9924.1, X_9924.2.1, ⟨_, e9930⟩, ⟨_, e9932⟩⟩ rfl
                    · have B10153 : sf_B 0 9 z10146 := sf_eqL (Classical.not_not.mp c10149) B10010
                      refine pm_R_op pm_M166 (pc_q := 155) (st_q := [.int 1]) (pm_q166_1 (Nat.le_of_ble_eq_true rfl)) rfl rfl ?_
                      refine pm_R_br pm_M166 (pc_q := 159) (pm_q166_1 (Nat.le_of_ble_eq_true rfl)) rfl ?_
                      refine pm_R_ret pm_M166 (r := some (.int 1)) (pm_q166_1 (Nat.le_of_ble_eq_true rfl)) rfl ?_
                      show pm_R _ 165 70 [.ref a, .ref a0, .ref 40, .ref t1, .ref t9, .int x5_8263, .int x6_9924] [.int 1] _ _
                      refine pm_R_br pm_M165 (pc_q := 73) (st_q := []) rfl rfl ?_
                      refine pm_R_lo pm_M165 (pc_q := 74) rfl rfl rfl ?_
                      refine pm_R_lo pm_M165 (pc_q := 76) rfl rfl rfl ?_
                      refine pm_R_op pm_M165 (pc_q := 77) (st_q := [.int x5_8263, .ref 40, .int x5_8263, .ref 40]) rfl rfl rfl ?_
                      obtain ⟨f10157, e10158⟩ := T_9924.C 40 (by decide) (by decide)
                      obtain ⟨z10154, ez10155⟩ : ∃ y, f10157 (Int32.toNatClampNeg x5_8263) = y := ⟨_, rfl⟩
                      refine pm_R_iald pm_M165 (pc_q := 78) (v := z10154) rfl e10158 (T_9924.lt (by decide)) (sf_in B8286 (by decide) (by decide)) ez10155 rfl ?_
                      refine pm_R_op pm_M165 (pc_q := 79) (st_q := [.int 1, .int z10154, .int x5_8263, .ref 40]) rfl rfl rfl ?_
                      refine pm_R_lo pm_M165 (pc_q := 81) rfl rfl rfl ?_
                      refine sf_R_iany pm_M165 (pc_q := 82) (st := [.int z10154, .int x5_8263, .ref 40]) rfl rfl rfl (fun z10163 => ?_)
                      refine sf_R_iany pm_M165 (pc_q := 83) (st := [.int x5_8263, .ref 40]) rfl rfl rfl (fun z10167 => ?_)
                      refine cl_R_ist G pm_M165 T_9924 (pc_q := 84) rfl e10158 (by decide) ⟨_, rfl⟩ (sf_in B8286 (by decide) (by decide)) rfl (fun h10168 T10169 F10170 e10171 => ?_)
                      have F10172 := F10170.cl (ck := ck) T_9924.1
                      have F10173 := F_9924.trans (N := 2) (S := 16) F10172 (by decide) (by decide) (by decide)
                      refine sf_R_iinc pm_M165 (pc_q := 87) (ls_q := fun z => [.ref a, .ref a0, .ref 40, .ref t1, .ref t9, .int x5_8263, .int z]) rfl B9985 rfl (by decide) (by decide) (by decide) (fun _ => rfl) rfl (fun z10174 e10175 B10176 => ?_)
                      show pm_R _ 165 87 [.ref a, .ref a0, .ref 40, .ref t1, .ref t9, .int x5_8263, .int z10174] [] _ _
                      refine pm_R_br pm_M165 (pc_q := 49) rfl rfl ?_
                      have e10177 := (F10172.tmp X_9924.1 (cl_tA X_9924.1 (by decide)) e9930)
                      have e10178 := (F10172.tmp X_9924.2.1 (cl_tA X_9924.2.1 (by decide)) e9932)
                      have ht10179 := (X_9924.1.F F10172)
                      have ht10180 := (X_9924.2.1.F F10172)
                      exact ih_9924 _ (sf_up hN_9924 e10175 B9985 (by decide) (by decide)) h10168 m_9924 z10174 T10169 F10173 W_9924 (sf_weak B10176 (by decide) (by decide)) ⟨ht10179, ht10180, ⟨_, e10177⟩, ⟨_, e10178⟩⟩ rfl
                have B10181 : sf_B 4 5 z10019 := sf_neL0 c10140 sf_k3 B10139
                by_cases c10182 : z10019 = 4
                · rw [c10182]
                  refine pm_R_br pm_M166 (pc_q := 160) (st_q := []) rfl rfl ?_
                  refine pm_R_lo pm_M166 (pc_q := 162) (pm_q166_1 (Nat.le_of_ble_eq_true rfl)) rfl rfl ?_
                  refine pm_R_lo pm_M166 (pc_q := 164) (pm_q166_1 (Nat.le_of_ble_eq_true rfl)) rfl rfl ?_
                  refine pm_R_icmp pm_M166 (t := 184) (pc_q := 167) (pm_q166_1 (Nat.le_of_ble_eq_true rfl)) rfl rfl (fun c10183 => ?_) (fun c10183 => ?_)
                  · skip
                    refine pm_R_op pm_M166 (pc_q := 185) (st_q := [.int 0]) (pm_q166_1 (Nat.le_of_ble_eq_true rfl)) rfl rfl ?_
                    refine pm_R_ret pm_M166 (r := some (.int 0)) (pm_q166_1 (Nat.le_of_ble_eq_true rfl)) rfl ?_
                    show pm_R _ 165 70 [.ref a, .ref a0, .ref 40, .ref t1, .ref t9, .int x5_8263, .int x6_9924] [.int 0] _ _
                    refine pm_R_br pm_M165 (pc_q := 84) (st_q := []) rfl rfl ?_
                    refine sf_R_iinc pm_M165 (pc_q := 87) (ls_q := fun z => [.ref a, .ref a0, .ref 40, .ref t1, .ref t9, .int x5_8263, .int z]) rfl B9985 rfl (by decide) (by decide) (by decide) (fun _ => rfl) rfl (fun z10184 e10185 B10186 => ?_)
                    show pm_R _ 165 87 [.ref a, .ref a0, .ref 40, .ref t1, .ref t9, .int x5_8263, .int z10184] [] _ _
                    refine pm_R_br pm_M165 (pc_q := 49) rfl rfl ?_
                    exact ih_9924 _ (sf_up hN_9924 e10185 B9985 (by decide) (by decide)) h_9924 m_9924 z10184 T_9924 F_9924 W_9924 (sf_weak B10186 (by decide) (by decide)) ⟨X_9924.1, X_9924.2.1, ⟨_, e9930⟩, ⟨_, e9932⟩⟩ rfl
                  · refine pm_R_lo pm_M166 (pc_q := 168) (pm_q166_1 (Nat.le_of_ble_eq_true rfl)) rfl rfl ?_
                    refine pm_R_get pm_M166 (pc_q := 171) (v := .ref (a0 + 3)) (pm_q166_1 (Nat.le_of_ble_eq_true rfl)) rfl (T_9924.im hk0 (by decide) (by decide) eE8279) (G.ge hk0 (by decide)) (T_9924.al hk0 (by decide)) rfl rfl ?_
                    refine pm_R_lo pm_M166 (pc_q := 172) (pm_q166_1 (Nat.le_of_ble_eq_true rfl)) rfl rfl ?_
                    have q10190 := cl_in1 (n := n8272) (Nat.le_trans h8278 (by decide)) (Int32.not_le.mp c8285) B8286 (by decide)
                    obtain ⟨z10187, ez10188⟩ : ∃ y, fs8275 (Int32.toNatClampNeg x5_8263) = y := ⟨_, rfl⟩
                    refine pm_R_iald pm_M166 (pc_q := 173) (v := z10187) (pm_q166_1 (Nat.le_of_ble_eq_true rfl)) (T_9924.im kq8284.2.2.1 (by decide) (by decide) eE8282) (T_9924.al kq8284.2.2.1 (by decide)) q10190.1 ez10188 rfl ?_
                    refine pm_R_op pm_M166 (pc_q := 174) (st_q := [.int 0, .int z10187]) (pm_q166_1 (Nat.le_of_ble_eq_true rfl)) rfl rfl ?_
                    refine sf_R_iany pm_M166 (pc_q := 175) (st := []) (pm_q166_1 (Nat.le_of_ble_eq_true rfl)) rfl rfl (fun z10194 => ?_)
                    refine pm_R_op pm_M166 (pc_q := 176) (st_q := [.int 1, .int z10194]) (pm_q166_1 (Nat.le_of_ble_eq_true rfl)) rfl rfl ?_
                    refine sf_R_iandE pm_M166 (pc_q := 177) (pm_q166_1 (Nat.le_of_ble_eq_true rfl)) rfl sf_k1 (by decide) (fun z10195 e10196 B10197 => ?_)
                    refine pm_R_ifc pm_M166 (t := 184) (pc_q := 180) (pm_q166_1 (Nat.le_of_ble_eq_true rfl)) rfl rfl (fun c10198 => ?_) (fun c10198 => ?_)
                    · have B10199 : sf_B 0 0 z10195 := sf_eqL c10198 sf_k0
                      refine pm_R_op pm_M166 (pc_q := 185) (st_q := [.int 0]) (pm_q166_1 (Nat.le_of_ble_eq_true rfl)) rfl rfl ?_
                      refine pm_R_ret pm_M166 (r := some (.int 0)) (pm_q166_1 (Nat.le_of_ble_eq_true rfl)) rfl ?_
                      show pm_R _ 165 70 [.ref a, .ref a0, .ref 40, .ref t1, .ref t9, .int x5_8263, .int x6_9924] [.int 0] _ _
                      refine pm_R_br pm_M165 (pc_q := 84) (st_q := []) rfl rfl ?_
                      refine sf_R_iinc pm_M165 (pc_q := 87) (ls_q := fun z => [.ref a, .ref a0, .ref 40, .ref t1, .ref t9, .int x5_8263, .int z]) rfl B9985 rfl (by decide) (by decide) (by decide) (fun _ => rfl) rfl (fun z10200 e10201 B10202 => ?_)
                      show pm_R _ 165 87 [.ref a, .ref a0, .ref 40, .ref t1, .ref t9, .int x5_8263, .int z10200] [] _ _
                      refine pm_R_br pm_M165 (pc_q := 49) rfl rfl ?_
                      exact ih_9924 _ (sf_up hN_9924 e10201 B9985 (by decide) (by decide)) h_9924 m_9924 z10200 T_9924 F_9924 W_9924 (sf_weak B10202 (by decide) (by decide)) ⟨X_9924.1, X_9924.2.1, ⟨_, e9930⟩, ⟨_, e9932⟩⟩ rfl
                    · have B10203 : sf_B 1 1 z10195 := sf_neL0 c10198 sf_k0 B10197
                      refine pm_R_op pm_M166 (pc_q := 181) (st_q := [.int 1]) (pm_q166_1 (Nat.le_of_ble_eq_true rfl)) rfl rfl ?_
                      refine pm_R_br pm_M166 (pc_q := 185) (pm_q166_1 (Nat.le_of_ble_eq_true rfl)) rfl ?_
                      refine pm_R_ret pm_M166 (r := some (.int 1)) (pm_q166_1 (Nat.le_of_ble_eq_true rfl)) rfl ?_
                      show pm_R _ 165 70 [.ref a, .ref a0, .ref 40, .ref t1, .ref t9, .int x5_8263, .int x6_9924] [.int 1] _ _
                      refine pm_R_br pm_M165 (pc_q := 73) (st_q := []) rfl rfl ?_
                      refine pm_R_lo pm_M165 (pc_q := 74) rfl rfl rfl ?_
                      refine pm_R_lo pm_M165 (pc_q := 76) rfl rfl rfl ?_
                      refine pm_R_op pm_M165 (pc_q := 77) (st_q := [.int x5_8263, .ref 40, .int x5_8263, .ref 40]) rfl rfl rfl ?_
                      obtain ⟨f10207, e10208⟩ := T_9924.C 40 (by decide) (by decide)
                      obtain ⟨z10204, ez10205⟩ : ∃ y, f10207 (Int32.toNatClampNeg x5_8263) = y := ⟨_, rfl⟩
                      refine pm_R_iald pm_M165 (pc_q := 78) (v := z10204) rfl e10208 (T_9924.lt (by decide)) (sf_in B8286 (by decide) (by decide)) ez10205 rfl ?_
                      refine pm_R_op pm_M165 (pc_q := 79) (st_q := [.int 1, .int z10204, .int x5_8263, .ref 40]) rfl rfl rfl ?_
                      refine pm_R_lo pm_M165 (pc_q := 81) rfl rfl rfl ?_
                      refine sf_R_iany pm_M165 (pc_q := 82) (st := [.int z10204, .int x5_8263, .ref 40]) rfl rfl rfl (fun z10213 => ?_)
                      refine sf_R_iany pm_M165 (pc_q := 83) (st := [.int x5_8263, .ref 40]) rfl rfl rfl (fun z10217 => ?_)
                      refine cl_R_ist G pm_M165 T_9924 (pc_q := 84) rfl e10208 (by decide) ⟨_, rfl⟩ (sf_in B8286 (by decide) (by decide)) rfl (fun h10218 T10219 F10220 e10221 => ?_)
                      have F10222 := F10220.cl (ck := ck) T_9924.1
                      have F10223 := F_9924.trans (N := 2) (S := 16) F10222 (by decide) (by decide) (by decide)
                      refine sf_R_iinc pm_M165 (pc_q := 87) (ls_q := fun z => [.ref a, .ref a0, .ref 40, .ref t1, .ref t9, .int x5_8263, .int z]) rfl B9985 rfl (by decide) (by decide) (by decide) (fun _ => rfl) rfl (fun z10224 e10225 B10226 => ?_)
                      show pm_R _ 165 87 [.ref a, .ref a0, .ref 40, .ref t1, .ref t9, .int x5_8263, .int z10224] [] _ _
                      refine pm_R_br pm_M165 (pc_q := 49) rfl rfl ?_
                      have e10227 := (F10222.tmp X_9924.1 (cl_tA X_9924.1 (by decide)) e9930)
                      have e10228 := (F10222.tmp X_9924.2.1 (cl_tA X_9924.2.1 (by decide)) e9932)
                      have ht10229 := (X_9924.1.F F10222)
                      have ht10230 := (X_9924.2.1.F F10222)
                      exact ih_9924 _ (sf_up hN_9924 e10225 B9985 (by decide) (by decide)) h10218 m_9924 z10224 T10219 F10223 W_9924 (sf_weak B10226 (by decide) (by decide)) ⟨ht10229, ht10230, ⟨_, e10227⟩, ⟨_, e10228⟩⟩ rfl
                have B10231 : sf_B 5 5 z10019 := sf_neL0 c10182 sf_k4 B10181
                rw [sf_pt2 B10231 sf_k5]
                refine pm_R_br pm_M166 (pc_q := 186) (st_q := []) rfl rfl ?_
                refine pm_R_lo pm_M166 (pc_q := 188) (pm_q166_1 (Nat.le_of_ble_eq_true rfl)) rfl rfl ?_
                refine pm_R_lo pm_M166 (pc_q := 190) (pm_q166_1 (Nat.le_of_ble_eq_true rfl)) rfl rfl ?_
                refine pm_R_icmp pm_M166 (t := 206) (pc_q := 193) (pm_q166_1 (Nat.le_of_ble_eq_true rfl)) rfl rfl (fun c10232 => ?_) (fun c10232 => ?_)
                · skip
                  refine pm_R_op pm_M166 (pc_q := 207) (st_q := [.int 0]) (pm_q166_1 (Nat.le_of_ble_eq_true rfl)) rfl rfl ?_
                  refine pm_R_ret pm_M166 (r := some (.int 0)) (pm_q166_1 (Nat.le_of_ble_eq_true rfl)) rfl ?_
                  show pm_R _ 165 70 [.ref a, .ref a0, .ref 40, .ref t1, .ref t9, .int x5_8263, .int x6_9924] [.int 0] _ _
                  refine pm_R_br pm_M165 (pc_q := 84) (st_q := []) rfl rfl ?_
                  refine sf_R_iinc pm_M165 (pc_q := 87) (ls_q := fun z => [.ref a, .ref a0, .ref 40, .ref t1, .ref t9, .int x5_8263, .int z]) rfl B9985 rfl (by decide) (by decide) (by decide) (fun _ => rfl) rfl (fun z10233 e10234 B10235 => ?_)
                  show pm_R _ 165 87 [.ref a, .ref a0, .ref 40, .ref t1, .ref t9, .int x5_8263, .int z10233] [] _ _
                  refine pm_R_br pm_M165 (pc_q := 49) rfl rfl ?_
                  exact ih_9924 _ (sf_up hN_9924 e10234 B9985 (by decide) (by decide)) h_9924 m_9924 z10233 T_9924 F_9924 W_9924 (sf_weak B10235 (by decide) (by decide)) ⟨X_9924.1, X_9924.2.1, ⟨_, e9930⟩, ⟨_, e9932⟩⟩ rfl
                · refine pm_R_lo pm_M166 (pc_q := 194) (pm_q166_1 (Nat.le_of_ble_eq_true rfl)) rfl rfl ?_
                  refine pm_R_get pm_M166 (pc_q := 197) (v := .ref (a0 + 3)) (pm_q166_1 (Nat.le_of_ble_eq_true rfl)) rfl (T_9924.im hk0 (by decide) (by decide) eE8279) (G.ge hk0 (by decide)) (T_9924.al hk0 (by decide)) rfl rfl ?_
                  refine pm_R_lo pm_M166 (pc_q := 198) (pm_q166_1 (Nat.le_of_ble_eq_true rfl)) rfl rfl ?_
                  have q10239 := cl_in1 (n := n8272) (Nat.le_trans h8278 (by decide)) (Int32.not_le.mp c8285) B8286 (by decide)
                  obtain ⟨z10236, ez10237⟩ : ∃ y, fs8275 (Int32.toNatClampNeg x5_8263) = y := ⟨_, rfl⟩
                  refine pm_R_iald pm_M166 (pc_q := 199) (v := z10236) (pm_q166_1 (Nat.le_of_ble_eq_true rfl)) (T_9924.im kq8284.2.2.1 (by decide) (by decide) eE8282) (T_9924.al kq8284.2.2.1 (by decide)) q10239.1 ez10237 rfl ?_
                  refine pm_R_ifc pm_M166 (t := 206) (pc_q := 202) (pm_q166_1 (Nat.le_of_ble_eq_true rfl)) rfl rfl (fun c10240 => ?_) (fun c10240 => ?_)
                  · skip
                    refine pm_R_op pm_M166 (pc_q := 207) (st_q := [.int 0]) (pm_q166_1 (Nat.le_of_ble_eq_true rfl)) rfl rfl ?_
                    refine pm_R_ret pm_M166 (r := some (.int 0)) (pm_q166_1 (Nat.le_of_ble_eq_true rfl)) rfl ?_
                    show pm_R _ 165 70 [.ref a, .ref a0, .ref 40, .ref t1, .ref t9, .int x5_8263, .int x6_9924] [.int 0] _ _
                    refine pm_R_br pm_M165 (pc_q := 84) (st_q := []) rfl rfl ?_
                    refine sf_R_iinc pm_M165 (pc_q := 87) (ls_q := fun z => [.ref a, .ref a0, .ref 40, .ref t1, .ref t9, .int x5_8263, .int z]) rfl B9985 rfl (by decide) (by decide) (by decide) (fun _ => rfl) rfl (fun z10241 e10242 B10243 => ?_)
                    show pm_R _ 165 87 [.ref a, .ref a0, .ref 40, .ref t1, .ref t9, .int x5_8263, .int z10241] [] _ _
                    refine pm_R_br pm_M165 (pc_q := 49) rfl rfl ?_
                    exact ih_9924 _ (sf_up hN_9924 e10242 B9985 (by decide) (by decide)) h_9924 m_9924 z10241 T_9924 F_9924 W_9924 (sf_weak B10243 (by decide) (by decide)) ⟨X_9924.1, X_9924.2.1, ⟨_, e9930⟩, ⟨_, e9932⟩⟩ rfl
                  · have B10244 : sf_B 0 0 z10236 := sf_eqL (Classical.not_not.mp c10240) sf_k0
                    refine pm_R_op pm_M166 (pc_q := 203) (st_q := [.int 1]) (pm_q166_1 (Nat.le_of_ble_eq_true rfl)) rfl rfl ?_
                    refine pm_R_br pm_M166 (pc_q := 207) (pm_q166_1 (Nat.le_of_ble_eq_true rfl)) rfl ?_
                    refine pm_R_ret pm_M166 (r := some (.int 1)) (pm_q166_1 (Nat.le_of_ble_eq_true rfl)) rfl ?_
                    show pm_R _ 165 70 [.ref a, .ref a0, .ref 40, .ref t1, .ref t9, .int x5_8263, .int x6_9924] [.int 1] _ _
                    refine pm_R_br pm_M165 (pc_q := 73) (st_q := []) rfl rfl ?_
                    refine pm_R_lo pm_M165 (pc_q := 74) rfl rfl rfl ?_
                    refine pm_R_lo pm_M165 (pc_q := 76) rfl rfl rfl ?_
                    refine pm_R_op pm_M165 (pc_q := 77) (st_q := [.int x5_8263, .ref 40, .int x5_8263, .ref 40]) rfl rfl rfl ?_
                    obtain ⟨f10248, e10249⟩ := T_9924.C 40 (by decide) (by decide)
                    obtain ⟨z10245, ez10246⟩ : ∃ y, f10248 (Int32.toNatClampNeg x5_8263) = y := ⟨_, rfl⟩
                    refine pm_R_iald pm_M165 (pc_q := 78) (v := z10245) rfl e10249 (T_9924.lt (by decide)) (sf_in B8286 (by decide) (by decide)) ez10246 rfl ?_
                    refine pm_R_op pm_M165 (pc_q := 79) (st_q := [.int 1, .int z10245, .int x5_8263, .ref 40]) rfl rfl rfl ?_
                    refine pm_R_lo pm_M165 (pc_q := 81) rfl rfl rfl ?_
                    refine sf_R_iany pm_M165 (pc_q := 82) (st := [.int z10245, .int x5_8263, .ref 40]) rfl rfl rfl (fun z10254 => ?_)
                    refine sf_R_iany pm_M165 (pc_q := 83) (st := [.int x5_8263, .ref 40]) rfl rfl rfl (fun z10258 => ?_)
                    refine cl_R_ist G pm_M165 T_9924 (pc_q := 84) rfl e10249 (by decide) ⟨_, rfl⟩ (sf_in B8286 (by decide) (by decide)) rfl (fun h10259 T10260 F10261 e10262 => ?_)
                    have F10263 := F10261.cl (ck := ck) T_9924.1
                    have F10264 := F_9924.trans (N := 2) (S := 16) F10263 (by decide) (by decide) (by decide)
                    refine sf_R_iinc pm_M165 (pc_q := 87) (ls_q := fun z => [.ref a, .ref a0, .ref 40, .ref t1, .ref t9, .int x5_8263, .int z]) rfl B9985 rfl (by decide) (by decide) (by decide) (fun _ => rfl) rfl (fun z10265 e10266 B10267 => ?_)
                    show pm_R _ 165 87 [.ref a, .ref a0, .ref 40, .ref t1, .ref t9, .int x5_8263, .int z10265] [] _ _
                    refine pm_R_br pm_M165 (pc_q := 49) rfl rfl ?_
                    have e10268 := (F10263.tmp X_9924.1 (cl_tA X_9924.1 (by decide)) e9930)
                    have e10269 := (F10263.tmp X_9924.2.1 (cl_tA X_9924.2.1 (by decide)) e9932)
                    have ht10270 := (X_9924.1.F F10263)
                    have ht10271 := (X_9924.2.1.F F10263)
                    exact ih_9924 _ (sf_up hN_9924 e10266 B9985 (by decide) (by decide)) h10259 m_9924 z10265 T10260 F10264 W_9924 (sf_weak B10267 (by decide) (by decide)) ⟨ht10270, ht10271, ⟨_, e10268⟩, ⟨_, e10269⟩⟩ rfl
          have e10272 := (F8295.tmp X_8263.1 (cl_tA X_8263.1 (by decide)) e8268)
          have e10273 := (F8295.tmp X_8263.2.1 (cl_tA X_8263.2.1 (by decide)) e8270)
          have ht10274 := (X_8263.1.F F8295)
          have ht10275 := (X_8263.2.1.F F8295)
          exact L_9924 _ h8291 m_8263 0 T8292 F8296 (rf_W.refl _ _) (sf_weak sf_k0 (by decide) (by decide)) ⟨ht10274, ht10275, ⟨_, e10272⟩, ⟨_, e10273⟩⟩ rfl
  have e10276 := (F50.tmp ((((((ht5.F F12).F F20).F F26).F F32).F F38).F F44) (cl_nin1 ne16) (F44.tmp (((((ht5.F F12).F F20).F F26).F F32).F F38) (cl_nin1 ne16) (F38.tmp ((((ht5.F F12).F F20).F F26).F F32) (cl_nin1 ne16) (F32.tmp (((ht5.F F12).F F20).F F26) (cl_nin1 ne16) (F26.tmp ((ht5.F F12).F F20) (cl_nin1 ne16) (F20.tmp (ht5.F F12) (cl_nin1 ne16) (F12.tmp ht5 List.not_mem_nil e6)))))))
  have ht10277 := (((((((ht5.F F12).F F20).F F26).F F32).F F38).F F44).F F50)
  have ht10278 := (ht47.F F50)
  exact L_8263 _ h48 m 0 (pm_no) T49 F52 (rf_W.refl _ _) (sf_weak sf_k0 (by decide) (by decide)) rfl ⟨ht10277, ht10278, ⟨_, e10276⟩, ⟨_, e51⟩⟩ rfl
