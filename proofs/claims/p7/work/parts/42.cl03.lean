set_option maxRecDepth 100000 in
set_option maxHeartbeats 4000000 in
/-- SilentTable.hole -/
theorem cl_c112 {d : Nat} {ck : cl_K} {E : Nat → pm_E} {m : Nat → Int32} {o : Nat → Option Nat} {h : pm_H} {Q : Option Value → pm_H → Prop} {a0 : Int32} {a1 : Int32} {a2 : Int32} (G : cl_G ck E) (T : cl_T ck E m o h)  (K : ∀ (r : Int32) (m_q : Nat → Int32) (h_q : pm_H), cl_T ck E m_q o h_q → cl_F ck [32, 38] 0 0 h h_q → rf_W [] m m_q → Q (some (.int r)) h_q) : pm_R (d + 4) 112 0 [.ref 16, .int a0, .int a1, .int a2, pm_no, pm_no, pm_no, pm_no] [] h Q := by
  refine pm_R_lo pm_M112 (pc_q := 1) rfl rfl rfl ?_
  refine pm_R_lo pm_M112 (pc_q := 2) rfl rfl rfl ?_
  refine pm_R_cv pm_M112 (pc_q := 5) (a := 16) (ra := [.int a0]) (rest := []) (ls_q := [.ref 16, .int a0]) rfl rfl (Or.inl rfl) pm_M62 T.e16 rfl (by decide) (T.lt (by decide)) rfl rfl (Nat.le_of_ble_eq_true rfl) rfl rfl ?_
  refine pm_R_lo pm_M62 (pc_q := 1) rfl rfl rfl ?_
  refine pm_R_ifc pm_M62 (t := 17) (pc_q := 4) rfl rfl rfl (fun c1 => ?_) (fun c1 => ?_)
  · have B2 : sf_B (-2147483648) (-1) a0 := sf_ltL c1 (sf_any a0) sf_k0
    refine pm_R_op pm_M62 (pc_q := 18) (st_q := [.null]) rfl rfl rfl ?_
    refine pm_R_br pm_M62 (pc_q := 30) rfl rfl ?_
    refine pm_R_ret pm_M62 (r := some (.null)) rfl rfl ?_
    show pm_R _ 112 5 [.ref 16, .int a0, .int a1, .int a2, pm_no, pm_no, pm_no, pm_no] [.null] _ _
    refine pm_R_lo pm_M112 (pc_q := 7) (ls_q := [.ref 16, .int a0, .int a1, .int a2, .null, pm_no, pm_no, pm_no]) (st_q := []) rfl rfl rfl ?_
    refine pm_R_lo pm_M112 (pc_q := 8) rfl rfl rfl ?_
    refine pm_R_lo pm_M112 (pc_q := 9) rfl rfl rfl ?_
    refine pm_R_cv pm_M112 (pc_q := 12) (a := 16) (ra := [.int a1]) (rest := []) (ls_q := [.ref 16, .int a1]) rfl rfl (Or.inl rfl) pm_M66 T.e16 rfl (by decide) (T.lt (by decide)) rfl rfl (Nat.le_of_ble_eq_true rfl) rfl rfl ?_
    refine pm_R_lo pm_M66 (pc_q := 1) rfl rfl rfl ?_
    refine pm_R_ifc pm_M66 (t := 17) (pc_q := 4) rfl rfl rfl (fun c3 => ?_) (fun c3 => ?_)
    · have B4 : sf_B (-2147483648) (-1) a1 := sf_ltL c3 (sf_any a1) sf_k0
      refine pm_R_op pm_M66 (pc_q := 18) (st_q := [.null]) rfl rfl rfl ?_
      refine pm_R_br pm_M66 (pc_q := 30) rfl rfl ?_
      refine pm_R_ret pm_M66 (r := some (.null)) rfl rfl ?_
      show pm_R _ 112 12 [.ref 16, .int a0, .int a1, .int a2, .null, pm_no, pm_no, pm_no] [.null] _ _
      refine pm_R_lo pm_M112 (pc_q := 14) (ls_q := [.ref 16, .int a0, .int a1, .int a2, .null, .null, pm_no, pm_no]) (st_q := []) rfl rfl rfl ?_
      refine pm_R_lo pm_M112 (pc_q := 16) rfl rfl rfl ?_
      refine pm_R_br pm_M112 (pc_q := 33) rfl rfl ?_
      refine pm_R_op pm_M112 (pc_q := 34) (st_q := [.int (-1)]) rfl rfl rfl ?_
      exact pm_R_ret pm_M112 (r := some (.int (-1))) rfl rfl (K (-1) m h T (cl_F.refl (ck := ck) (A := [32, 38]) (n := 0) (s := 0) T.1) (rf_W.refl [] m))
    · have B5 : sf_B 0 2147483647 a1 := sf_leR (Int32.not_lt.mp c3) sf_k0 (sf_any a1)
      refine pm_R_lo pm_M66 (pc_q := 5) rfl rfl rfl ?_
      refine pm_R_lo pm_M66 (pc_q := 6) rfl rfl rfl ?_
      refine pm_R_get pm_M66 (pc_q := 9) (v := .ref 17) rfl rfl T.e16 (by decide) (T.lt (by decide)) rfl rfl ?_
      refine pm_R_get pm_M66 (pc_q := 12) (v := .ref 23) rfl rfl T.e17 (by decide) (T.lt (by decide)) rfl rfl ?_
      refine pm_R_op pm_M66 (pc_q := 13) (st_q := [.int 1, .ref 23, .int a1]) rfl rfl rfl ?_
      obtain ⟨f9, e10, b11⟩ := T.C 23 (by decide) (by decide)
      obtain ⟨z6, ez7⟩ : ∃ y, f9 (Int32.toNatClampNeg 1) = y := ⟨_, rfl⟩
      have B8 : sf_B 0 3 z6 := ez7 ▸ (b11 1)
      refine pm_R_iald pm_M66 (pc_q := 14) (v := z6) rfl e10 (T.lt (by decide)) rfl ez7 rfl ?_
      refine pm_R_icmp pm_M66 (t := 21) (pc_q := 17) rfl rfl rfl (fun c12 => ?_) (fun c12 => ?_)
      · have B13 : sf_B 0 2 a1 := sf_ltL c12 B5 B8
        have B14 : sf_B 1 3 z6 := sf_ltR c12 B5 B8
        refine pm_R_lo pm_M66 (pc_q := 22) rfl rfl rfl ?_
        refine pm_R_get pm_M66 (pc_q := 25) (v := .ref 17) rfl rfl T.e16 (by decide) (T.lt (by decide)) rfl rfl ?_
        refine pm_R_get pm_M66 (pc_q := 28) (v := .ref 20) rfl rfl T.e17 (by decide) (T.lt (by decide)) rfl rfl ?_
        refine pm_R_lo pm_M66 (pc_q := 29) rfl rfl rfl ?_
        obtain ⟨f15, e16, b17⟩ := T.C 20 (by decide) (by decide)
        obtain ⟨l18, hx19⟩ := cl_there1 T e10 e16 ez7 c12 B13 (by decide)
        have hk20 := b17 _ _ hx19
        refine pm_R_aald pm_M66 (pc_q := 30) (v := .ref l18) rfl e16 (by decide) (by decide) (by decide) (T.lt (by decide)) (sf_in B13 (by decide) (by decide)) (by rw [hx19]; rfl) rfl ?_
        refine pm_R_ret pm_M66 (r := some (.ref l18)) rfl rfl ?_
        show pm_R _ 112 12 [.ref 16, .int a0, .int a1, .int a2, .null, pm_no, pm_no, pm_no] [.ref l18] _ _
        refine pm_R_lo pm_M112 (pc_q := 14) (ls_q := [.ref 16, .int a0, .int a1, .int a2, .null, .ref l18, pm_no, pm_no]) (st_q := []) rfl rfl rfl ?_
        refine pm_R_lo pm_M112 (pc_q := 16) rfl rfl rfl ?_
        refine pm_R_br pm_M112 (pc_q := 33) rfl rfl ?_
        refine pm_R_op pm_M112 (pc_q := 34) (st_q := [.int (-1)]) rfl rfl rfl ?_
        exact pm_R_ret pm_M112 (r := some (.int (-1))) rfl rfl (K (-1) m h T (cl_F.refl (ck := ck) (A := [32, 38]) (n := 0) (s := 0) T.1) (rf_W.refl [] m))
      · skip
        refine pm_R_op pm_M66 (pc_q := 18) (st_q := [.null]) rfl rfl rfl ?_
        refine pm_R_br pm_M66 (pc_q := 30) rfl rfl ?_
        refine pm_R_ret pm_M66 (r := some (.null)) rfl rfl ?_
        show pm_R _ 112 12 [.ref 16, .int a0, .int a1, .int a2, .null, pm_no, pm_no, pm_no] [.null] _ _
        refine pm_R_lo pm_M112 (pc_q := 14) (ls_q := [.ref 16, .int a0, .int a1, .int a2, .null, .null, pm_no, pm_no]) (st_q := []) rfl rfl rfl ?_
        refine pm_R_lo pm_M112 (pc_q := 16) rfl rfl rfl ?_
        refine pm_R_br pm_M112 (pc_q := 33) rfl rfl ?_
        refine pm_R_op pm_M112 (pc_q := 34) (st_q := [.int (-1)]) rfl rfl rfl ?_
        exact pm_R_ret pm_M112 (r := some (.int (-1))) rfl rfl (K (-1) m h T (cl_F.refl (ck := ck) (A := [32, 38]) (n := 0) (s := 0) T.1) (rf_W.refl [] m))
  · have B21 : sf_B 0 2147483647 a0 := sf_leR (Int32.not_lt.mp c1) sf_k0 (sf_any a0)
    refine pm_R_lo pm_M62 (pc_q := 5) rfl rfl rfl ?_
    refine pm_R_lo pm_M62 (pc_q := 6) rfl rfl rfl ?_
    refine pm_R_get pm_M62 (pc_q := 9) (v := .ref 17) rfl rfl T.e16 (by decide) (T.lt (by decide)) rfl rfl ?_
    refine pm_R_get pm_M62 (pc_q := 12) (v := .ref 23) rfl rfl T.e17 (by decide) (T.lt (by decide)) rfl rfl ?_
    refine pm_R_op pm_M62 (pc_q := 13) (st_q := [.int 0, .ref 23, .int a0]) rfl rfl rfl ?_
    obtain ⟨f25, e26, b27⟩ := T.C 23 (by decide) (by decide)
    obtain ⟨z22, ez23⟩ : ∃ y, f25 (Int32.toNatClampNeg 0) = y := ⟨_, rfl⟩
    have B24 : sf_B 0 2 z22 := ez23 ▸ (b27 0)
    refine pm_R_iald pm_M62 (pc_q := 14) (v := z22) rfl e26 (T.lt (by decide)) rfl ez23 rfl ?_
    refine pm_R_icmp pm_M62 (t := 21) (pc_q := 17) rfl rfl rfl (fun c28 => ?_) (fun c28 => ?_)
    · have B29 : sf_B 0 1 a0 := sf_ltL c28 B21 B24
      have B30 : sf_B 1 2 z22 := sf_ltR c28 B21 B24
      refine pm_R_lo pm_M62 (pc_q := 22) rfl rfl rfl ?_
      refine pm_R_get pm_M62 (pc_q := 25) (v := .ref 17) rfl rfl T.e16 (by decide) (T.lt (by decide)) rfl rfl ?_
      refine pm_R_get pm_M62 (pc_q := 28) (v := .ref 19) rfl rfl T.e17 (by decide) (T.lt (by decide)) rfl rfl ?_
      refine pm_R_lo pm_M62 (pc_q := 29) rfl rfl rfl ?_
      obtain ⟨f31, e32, b33⟩ := T.C 19 (by decide) (by decide)
      obtain ⟨l34, hx35⟩ := cl_there0 T e26 e32 ez23 c28 B29 (by decide)
      have hk36 := b33 _ _ hx35
      refine pm_R_aald pm_M62 (pc_q := 30) (v := .ref l34) rfl e32 (by decide) (by decide) (by decide) (T.lt (by decide)) (sf_in B29 (by decide) (by decide)) (by rw [hx35]; rfl) rfl ?_
      refine pm_R_ret pm_M62 (r := some (.ref l34)) rfl rfl ?_
      show pm_R _ 112 5 [.ref 16, .int a0, .int a1, .int a2, pm_no, pm_no, pm_no, pm_no] [.ref l34] _ _
      refine pm_R_lo pm_M112 (pc_q := 7) (ls_q := [.ref 16, .int a0, .int a1, .int a2, .ref l34, pm_no, pm_no, pm_no]) (st_q := []) rfl rfl rfl ?_
      refine pm_R_lo pm_M112 (pc_q := 8) rfl rfl rfl ?_
      refine pm_R_lo pm_M112 (pc_q := 9) rfl rfl rfl ?_
      refine pm_R_cv pm_M112 (pc_q := 12) (a := 16) (ra := [.int a1]) (rest := []) (ls_q := [.ref 16, .int a1]) rfl rfl (Or.inl rfl) pm_M66 T.e16 rfl (by decide) (T.lt (by decide)) rfl rfl (Nat.le_of_ble_eq_true rfl) rfl rfl ?_
      refine pm_R_lo pm_M66 (pc_q := 1) rfl rfl rfl ?_
      refine pm_R_ifc pm_M66 (t := 17) (pc_q := 4) rfl rfl rfl (fun c37 => ?_) (fun c37 => ?_)
      · have B38 : sf_B (-2147483648) (-1) a1 := sf_ltL c37 (sf_any a1) sf_k0
        refine pm_R_op pm_M66 (pc_q := 18) (st_q := [.null]) rfl rfl rfl ?_
        refine pm_R_br pm_M66 (pc_q := 30) rfl rfl ?_
        refine pm_R_ret pm_M66 (r := some (.null)) rfl rfl ?_
        show pm_R _ 112 12 [.ref 16, .int a0, .int a1, .int a2, .ref l34, pm_no, pm_no, pm_no] [.null] _ _
        refine pm_R_lo pm_M112 (pc_q := 14) (ls_q := [.ref 16, .int a0, .int a1, .int a2, .ref l34, .null, pm_no, pm_no]) (st_q := []) rfl rfl rfl ?_
        refine pm_R_lo pm_M112 (pc_q := 16) rfl rfl rfl ?_
        refine pm_R_br pm_M112 (pc_q := 19) rfl rfl ?_
        refine pm_R_lo pm_M112 (pc_q := 21) rfl rfl rfl ?_
        refine pm_R_br pm_M112 (pc_q := 33) rfl rfl ?_
        refine pm_R_op pm_M112 (pc_q := 34) (st_q := [.int (-1)]) rfl rfl rfl ?_
        exact pm_R_ret pm_M112 (r := some (.int (-1))) rfl rfl (K (-1) m h T (cl_F.refl (ck := ck) (A := [32, 38]) (n := 0) (s := 0) T.1) (rf_W.refl [] m))
      · have B39 : sf_B 0 2147483647 a1 := sf_leR (Int32.not_lt.mp c37) sf_k0 (sf_any a1)
        refine pm_R_lo pm_M66 (pc_q := 5) rfl rfl rfl ?_
        refine pm_R_lo pm_M66 (pc_q := 6) rfl rfl rfl ?_
        refine pm_R_get pm_M66 (pc_q := 9) (v := .ref 17) rfl rfl T.e16 (by decide) (T.lt (by decide)) rfl rfl ?_
        refine pm_R_get pm_M66 (pc_q := 12) (v := .ref 23) rfl rfl T.e17 (by decide) (T.lt (by decide)) rfl rfl ?_
        refine pm_R_op pm_M66 (pc_q := 13) (st_q := [.int 1, .ref 23, .int a1]) rfl rfl rfl ?_
        obtain ⟨z40, ez41⟩ : ∃ y, f25 (Int32.toNatClampNeg 1) = y := ⟨_, rfl⟩
        have B42 : sf_B 0 3 z40 := ez41 ▸ (b27 1)
        refine pm_R_iald pm_M66 (pc_q := 14) (v := z40) rfl e26 (T.lt (by decide)) rfl ez41 rfl ?_
        refine pm_R_icmp pm_M66 (t := 21) (pc_q := 17) rfl rfl rfl (fun c43 => ?_) (fun c43 => ?_)
        · have B44 : sf_B 0 2 a1 := sf_ltL c43 B39 B42
          have B45 : sf_B 1 3 z40 := sf_ltR c43 B39 B42
          refine pm_R_lo pm_M66 (pc_q := 22) rfl rfl rfl ?_
          refine pm_R_get pm_M66 (pc_q := 25) (v := .ref 17) rfl rfl T.e16 (by decide) (T.lt (by decide)) rfl rfl ?_
          refine pm_R_get pm_M66 (pc_q := 28) (v := .ref 20) rfl rfl T.e17 (by decide) (T.lt (by decide)) rfl rfl ?_
          refine pm_R_lo pm_M66 (pc_q := 29) rfl rfl rfl ?_
          obtain ⟨f46, e47, b48⟩ := T.C 20 (by decide) (by decide)
          obtain ⟨l49, hx50⟩ := cl_there1 T e26 e47 ez41 c43 B44 (by decide)
          have hk51 := b48 _ _ hx50
          refine pm_R_aald pm_M66 (pc_q := 30) (v := .ref l49) rfl e47 (by decide) (by decide) (by decide) (T.lt (by decide)) (sf_in B44 (by decide) (by decide)) (by rw [hx50]; rfl) rfl ?_
          refine pm_R_ret pm_M66 (r := some (.ref l49)) rfl rfl ?_
          show pm_R _ 112 12 [.ref 16, .int a0, .int a1, .int a2, .ref l34, pm_no, pm_no, pm_no] [.ref l49] _ _
          refine pm_R_lo pm_M112 (pc_q := 14) (ls_q := [.ref 16, .int a0, .int a1, .int a2, .ref l34, .ref l49, pm_no, pm_no]) (st_q := []) rfl rfl rfl ?_
          refine pm_R_lo pm_M112 (pc_q := 16) rfl rfl rfl ?_
          refine pm_R_br pm_M112 (pc_q := 19) rfl rfl ?_
          refine pm_R_lo pm_M112 (pc_q := 21) rfl rfl rfl ?_
          refine pm_R_br pm_M112 (pc_q := 24) rfl rfl ?_
          refine pm_R_lo pm_M112 (pc_q := 26) rfl rfl rfl ?_
          refine pm_R_lo pm_M112 (pc_q := 27) rfl rfl rfl ?_
          obtain ⟨n52, f53, h54, h55, eE56, eE57, b58⟩ := (G.2.2.1 l49 hk51).2
          have kq59 := (G.2.2.1 l49 hk51).1
          refine pm_R_cv pm_M112 (pc_q := 30) (a := l49) (ra := [.int a2]) (rest := []) (ls_q := [.ref l49, .int a2]) rfl rfl (Or.inl rfl) pm_M67 (T.im hk51 (by decide) (by decide) eE56) rfl (G.ge hk51 (by decide)) (T.al hk51 (by decide)) rfl rfl (Nat.le_of_ble_eq_true rfl) rfl rfl ?_
          refine pm_R_lo pm_M67 (pc_q := 1) rfl rfl rfl ?_
          refine pm_R_ifc pm_M67 (t := 16) (pc_q := 4) rfl rfl rfl (fun c60 => ?_) (fun c60 => ?_)
          · have B61 : sf_B (-2147483648) (-1) a2 := sf_ltL c60 (sf_any a2) sf_k0
            refine pm_R_op pm_M67 (pc_q := 17) (st_q := [.int 0]) rfl rfl rfl ?_
            refine pm_R_ret pm_M67 (r := some (.int 0)) rfl rfl ?_
            show pm_R _ 112 30 [.ref 16, .int a0, .int a1, .int a2, .ref l34, .ref l49, pm_no, pm_no] [.int 0] _ _
            refine pm_R_br pm_M112 (pc_q := 33) (st_q := []) rfl rfl ?_
            refine pm_R_op pm_M112 (pc_q := 34) (st_q := [.int (-1)]) rfl rfl rfl ?_
            exact pm_R_ret pm_M112 (r := some (.int (-1))) rfl rfl (K (-1) m h T (cl_F.refl (ck := ck) (A := [32, 38]) (n := 0) (s := 0) T.1) (rf_W.refl [] m))
          · have B62 : sf_B 0 2147483647 a2 := sf_leR (Int32.not_lt.mp c60) sf_k0 (sf_any a2)
            refine pm_R_lo pm_M67 (pc_q := 5) rfl rfl rfl ?_
            refine pm_R_lo pm_M67 (pc_q := 6) rfl rfl rfl ?_
            refine pm_R_get pm_M67 (pc_q := 9) (v := .int (Int32.ofNat n52)) rfl rfl (T.im hk51 (by decide) (by decide) eE56) (G.ge hk51 (by decide)) (T.al hk51 (by decide)) rfl rfl ?_
            refine pm_R_icmp pm_M67 (t := 16) (pc_q := 12) rfl rfl rfl (fun c63 => ?_) (fun c63 => ?_)
            · have B64 : sf_B 1 2147483647 a2 := sf_leR c63 (sf_ofB1 h55 h54 (by decide)) B62
              refine pm_R_op pm_M67 (pc_q := 17) (st_q := [.int 0]) rfl rfl rfl ?_
              refine pm_R_ret pm_M67 (r := some (.int 0)) rfl rfl ?_
              show pm_R _ 112 30 [.ref 16, .int a0, .int a1, .int a2, .ref l34, .ref l49, pm_no, pm_no] [.int 0] _ _
              refine pm_R_br pm_M112 (pc_q := 33) (st_q := []) rfl rfl ?_
              refine pm_R_op pm_M112 (pc_q := 34) (st_q := [.int (-1)]) rfl rfl rfl ?_
              exact pm_R_ret pm_M112 (r := some (.int (-1))) rfl rfl (K (-1) m h T (cl_F.refl (ck := ck) (A := [32, 38]) (n := 0) (s := 0) T.1) (rf_W.refl [] m))
            · have B65 : sf_B 0 11 a2 := sf_ltL (Int32.not_le.mp c63) B62 (sf_ofB1 h55 h54 (by decide))
              refine pm_R_op pm_M67 (pc_q := 13) (st_q := [.int 1]) rfl rfl rfl ?_
              refine pm_R_br pm_M67 (pc_q := 17) rfl rfl ?_
              refine pm_R_ret pm_M67 (r := some (.int 1)) rfl rfl ?_
              show pm_R _ 112 30 [.ref 16, .int a0, .int a1, .int a2, .ref l34, .ref l49, pm_no, pm_no] [.int 1] _ _
              refine pm_R_br pm_M112 (pc_q := 35) (st_q := []) rfl rfl ?_
              refine pm_R_lo pm_M112 (pc_q := 36) rfl rfl rfl ?_
              refine pm_R_lo pm_M112 (pc_q := 38) rfl rfl rfl ?_
              refine pm_R_lo pm_M112 (pc_q := 40) rfl rfl rfl ?_
              refine pm_R_op pm_M112 (pc_q := 41) (st_q := [.int 0, .ref l49, .ref l34, .ref 16]) rfl rfl rfl ?_
              refine pm_R_cv pm_M112 (pc_q := 44) (a := 16) (ra := [.int 0, .ref l49, .ref l34]) (rest := []) (ls_q := [.ref 16, .ref l34, .ref l49, .int 0, pm_no]) rfl rfl (Or.inl rfl) pm_M99 T.e16 rfl (by decide) (T.lt (by decide)) rfl rfl (Nat.le_of_ble_eq_true rfl) rfl rfl ?_
              refine cl_c99 (d := d + 3) G T hk36 hk51 (sf_weak sf_k0 (by decide) (by decide)) (fun m68 h69 T70 F71 W72 => ?_)
              have F73 := (cl_F.refl (ck := ck) (A := [32, 38]) (n := 0) (s := 0) T.1).trans (N := 0) (S := 0) F71 (by decide) (by decide) (by decide)
              have W74 : rf_W [] m m68 := (rf_W.refl [] m).trans W72 (by decide)
              show pm_R _ 112 44 [.ref 16, .int a0, .int a1, .int a2, .ref l34, .ref l49, pm_no, pm_no] [] _ _
              refine pm_R_op pm_M112 (pc_q := 45) (st_q := [.int 0]) rfl rfl rfl ?_
              refine pm_R_lo pm_M112 (pc_q := 47) (ls_q := [.ref 16, .int a0, .int a1, .int a2, .ref l34, .ref l49, .int 0, pm_no]) (st_q := []) rfl rfl rfl ?_
              refine pm_R_op pm_M112 (pc_q := 48) (st_q := [.int 0]) rfl rfl rfl ?_
              refine pm_R_lo pm_M112 (pc_q := 50) (ls_q := [.ref 16, .int a0, .int a1, .int a2, .ref l34, .ref l49, .int 0, .int 0]) (st_q := []) rfl rfl rfl ?_
              have L_314 : ∀ (N : Nat) (h_314 : pm_H) (m_314 : Nat → Int32) (x6_314 : Int32) (x7_314 : Int32), cl_T ck E m_314 o h_314 → cl_F ck [32, 38] 0 0 h h_314 → rf_W [] m68 m_314 → sf_B (-2147483648) 2147483647 x6_314 → sf_B 0 10 x7_314 → (10 - x7_314.toInt).toNat = N → pm_R (d + 4) 112 50 [.ref 16, .int a0, .int a1, .int a2, .ref l34, .ref l49, .int x6_314, .int x7_314] [] h_314 Q := by
                intro N
                induction N using Nat.strongRecOn with
                | ind N ih_314 =>
                  intro h_314 m_314 x6_314 x7_314 T_314 F_314 W_314 Bx6_314 Bx7_314 hN_314
                  have W317 : rf_W [] m m_314 := W74.trans W_314 (by decide)
                  refine pm_R_lo pm_M112 (pc_q := 52) rfl rfl rfl ?_
                  refine pm_R_op pm_M112 (pc_q := 54) (st_q := [.int 10, .int x7_314]) rfl rfl rfl ?_
                  refine pm_R_icmp pm_M112 (t := 105) (pc_q := 57) rfl rfl rfl (fun c318 => ?_) (fun c318 => ?_)
                  · have B319 : sf_B 10 10 x7_314 := sf_leR c318 sf_k10 Bx7_314
                    refine pm_R_lo pm_M112 (pc_q := 107) rfl rfl rfl ?_
                    exact pm_R_ret pm_M112 (r := some (.int x6_314)) rfl (pm_ret_i _) (K x6_314 m_314 h_314 T_314 F_314 W317)
                  · have B320 : sf_B 0 9 x7_314 := sf_ltL (Int32.not_le.mp c318) Bx7_314 sf_k10
                    refine pm_R_lo pm_M112 (pc_q := 58) rfl rfl rfl ?_
                    refine pm_R_get pm_M112 (pc_q := 61) (v := .ref 38) rfl rfl T_314.e16 (by decide) (T_314.lt (by decide)) rfl rfl ?_
                    refine pm_R_lo pm_M112 (pc_q := 62) rfl rfl rfl ?_
                    refine pm_R_op pm_M112 (pc_q := 63) (st_q := [.int 1, .int a2, .ref 38]) rfl rfl rfl ?_
                    refine pm_R_lo pm_M112 (pc_q := 65) rfl rfl rfl ?_
                    refine sf_R_iany pm_M112 (pc_q := 66) (st := [.int a2, .ref 38]) rfl rfl rfl (fun z324 => ?_)
                    obtain ⟨f325, e326⟩ := T_314.C 38 (by decide) (by decide)
                    refine cl_R_ist G pm_M112 T_314 (pc_q := 67) rfl e326 (by decide) ⟨_, rfl⟩ (sf_in B65 (by decide) (by decide)) rfl (fun h328 T329 F330 e331 => ?_)
                    have F332 := F330.cl (ck := ck) T_314.1
                    have F333 := F_314.trans (N := 0) (S := 0) F332 (by decide) (by decide) (by decide)
                    refine pm_R_lo pm_M112 (pc_q := 68) rfl rfl rfl ?_
                    refine pm_R_get pm_M112 (pc_q := 71) (v := .ref 31) rfl rfl T329.e16 (by decide) (T329.lt (by decide)) rfl rfl ?_
                    refine pm_R_lo pm_M112 (pc_q := 73) rfl rfl rfl ?_
                    refine pm_R_lo pm_M112 (pc_q := 74) rfl rfl rfl ?_
                    refine pm_R_get pm_M112 (pc_q := 77) (v := .ref 38) rfl rfl T329.e16 (by decide) (T329.lt (by decide)) rfl rfl ?_
                    refine pm_R_lo pm_M112 (pc_q := 79) rfl rfl rfl ?_
                    refine pm_R_get pm_M112 (pc_q := 82) (v := .int (Int32.ofNat n52)) rfl rfl (T329.im hk51 (by decide) (by decide) eE56) (G.ge hk51 (by decide)) (T329.al hk51 (by decide)) rfl rfl ?_
                    refine pm_R_cv pm_M112 (pc_q := 85) (a := 31) (ra := [.int (Int32.ofNat n52), .ref 38, .ref l34]) (rest := []) (ls_q := [.ref 31, .ref l34, .ref 38, .int (Int32.ofNat n52), pm_no, pm_no]) rfl rfl (Or.inl rfl) pm_M100 T329.e31 rfl (by decide) (T329.lt (by decide)) rfl rfl (Nat.le_of_ble_eq_true rfl) rfl rfl ?_
                    refine cl_c100 (d := d + 0) G T329 hk36 (fun r334 m336 h337 T338 F339 W340 => ?_)
                    have F341 := F333.trans (N := 0) (S := 0) F339 (by decide) (by decide) (by decide)
                    have W342 : rf_W [] m m336 := W317.trans W340 (by decide)
                    have W343 : rf_W [] m68 m336 := W_314.trans W340 (by decide)
                    show pm_R _ 112 85 [.ref 16, .int a0, .int a1, .int a2, .ref l34, .ref l49, .int x6_314, .int x7_314] [.long r334] _ _
                    refine pm_R_op pm_M112 (pc_q := 86) (st_q := [.long 0, .long r334]) rfl rfl rfl ?_
                    refine sf_R_lcmp pm_M112 (pc_q := 87) rfl rfl (fun z344 e345 => ?_)
                    refine pm_R_ifc pm_M112 (t := 99) (pc_q := 90) rfl rfl rfl (fun c346 => ?_) (fun c346 => ?_)
                    · have B347 : sf_B 0 0 z344 := sf_eqL c346 sf_k0
                      have B348 : lf_B 0 0 r334 := lf_eqB e345 B347 (⟨by decide, by decide⟩ : lf_B 0 0 0)
                      refine sf_R_iinc pm_M112 (pc_q := 102) (ls_q := fun z => [.ref 16, .int a0, .int a1, .int a2, .ref l34, .ref l49, .int x6_314, .int z]) rfl B320 rfl (by decide) (by decide) (by decide) (fun _ => rfl) rfl (fun z349 e350 B351 => ?_)
                      show pm_R _ 112 102 [.ref 16, .int a0, .int a1, .int a2, .ref l34, .ref l49, .int x6_314, .int z349] [] _ _
                      refine pm_R_br pm_M112 (pc_q := 50) rfl rfl ?_
                      exact ih_314 _ (sf_up hN_314 e350 B320 (by decide) (by decide)) h337 m336 x6_314 z349 T338 F341 W343 Bx6_314 (sf_weak B351 (by decide) (by decide)) rfl
                    · have k352 := sf_lneC e345 c346
                      refine pm_R_lo pm_M112 (pc_q := 92) rfl rfl rfl ?_
                      refine pm_R_op pm_M112 (pc_q := 93) (st_q := [.int 1, .int x6_314]) rfl rfl rfl ?_
                      refine pm_R_lo pm_M112 (pc_q := 95) rfl rfl rfl ?_
                      refine sf_R_iany pm_M112 (pc_q := 96) (st := [.int x6_314]) rfl rfl rfl (fun z356 => ?_)
                      refine sf_R_iany pm_M112 (pc_q := 97) (st := []) rfl rfl rfl (fun z360 => ?_)
                      refine pm_R_lo pm_M112 (pc_q := 99) (ls_q := [.ref 16, .int a0, .int a1, .int a2, .ref l34, .ref l49, .int z360, .int x7_314]) (st_q := []) rfl rfl rfl ?_
                      refine sf_R_iinc pm_M112 (pc_q := 102) (ls_q := fun z => [.ref 16, .int a0, .int a1, .int a2, .ref l34, .ref l49, .int z360, .int z]) rfl B320 rfl (by decide) (by decide) (by decide) (fun _ => rfl) rfl (fun z361 e362 B363 => ?_)
                      show pm_R _ 112 102 [.ref 16, .int a0, .int a1, .int a2, .ref l34, .ref l49, .int z360, .int z361] [] _ _
                      refine pm_R_br pm_M112 (pc_q := 50) rfl rfl ?_
                      exact ih_314 _ (sf_up hN_314 e362 B320 (by decide) (by decide)) h337 m336 z360 z361 T338 F341 W343 (sf_any z360) (sf_weak B363 (by decide) (by decide)) rfl
              exact L_314 _ h69 m68 0 0 T70 F73 (rf_W.refl _ _) (sf_weak sf_k0 (by decide) (by decide)) (sf_weak sf_k0 (by decide) (by decide)) rfl
        · skip
          refine pm_R_op pm_M66 (pc_q := 18) (st_q := [.null]) rfl rfl rfl ?_
          refine pm_R_br pm_M66 (pc_q := 30) rfl rfl ?_
          refine pm_R_ret pm_M66 (r := some (.null)) rfl rfl ?_
          show pm_R _ 112 12 [.ref 16, .int a0, .int a1, .int a2, .ref l34, pm_no, pm_no, pm_no] [.null] _ _
          refine pm_R_lo pm_M112 (pc_q := 14) (ls_q := [.ref 16, .int a0, .int a1, .int a2, .ref l34, .null, pm_no, pm_no]) (st_q := []) rfl rfl rfl ?_
          refine pm_R_lo pm_M112 (pc_q := 16) rfl rfl rfl ?_
          refine pm_R_br pm_M112 (pc_q := 19) rfl rfl ?_
          refine pm_R_lo pm_M112 (pc_q := 21) rfl rfl rfl ?_
          refine pm_R_br pm_M112 (pc_q := 33) rfl rfl ?_
          refine pm_R_op pm_M112 (pc_q := 34) (st_q := [.int (-1)]) rfl rfl rfl ?_
          exact pm_R_ret pm_M112 (r := some (.int (-1))) rfl rfl (K (-1) m h T (cl_F.refl (ck := ck) (A := [32, 38]) (n := 0) (s := 0) T.1) (rf_W.refl [] m))
    · skip
      refine pm_R_op pm_M62 (pc_q := 18) (st_q := [.null]) rfl rfl rfl ?_
      refine pm_R_br pm_M62 (pc_q := 30) rfl rfl ?_
      refine pm_R_ret pm_M62 (r := some (.null)) rfl rfl ?_
      show pm_R _ 112 5 [.ref 16, .int a0, .int a1, .int a2, pm_no, pm_no, pm_no, pm_no] [.null] _ _
      refine pm_R_lo pm_M112 (pc_q := 7) (ls_q := [.ref 16, .int a0, .int a1, .int a2, .null, pm_no, pm_no, pm_no]) (st_q := []) rfl rfl rfl ?_
      refine pm_R_lo pm_M112 (pc_q := 8) rfl rfl rfl ?_
      refine pm_R_lo pm_M112 (pc_q := 9) rfl rfl rfl ?_
      refine pm_R_cv pm_M112 (pc_q := 12) (a := 16) (ra := [.int a1]) (rest := []) (ls_q := [.ref 16, .int a1]) rfl rfl (Or.inl rfl) pm_M66 T.e16 rfl (by decide) (T.lt (by decide)) rfl rfl (Nat.le_of_ble_eq_true rfl) rfl rfl ?_
      refine pm_R_lo pm_M66 (pc_q := 1) rfl rfl rfl ?_
      refine pm_R_ifc pm_M66 (t := 17) (pc_q := 4) rfl rfl rfl (fun c364 => ?_) (fun c364 => ?_)
      · have B365 : sf_B (-2147483648) (-1) a1 := sf_ltL c364 (sf_any a1) sf_k0
        refine pm_R_op pm_M66 (pc_q := 18) (st_q := [.null]) rfl rfl rfl ?_
        refine pm_R_br pm_M66 (pc_q := 30) rfl rfl ?_
        refine pm_R_ret pm_M66 (r := some (.null)) rfl rfl ?_
        show pm_R _ 112 12 [.ref 16, .int a0, .int a1, .int a2, .null, pm_no, pm_no, pm_no] [.null] _ _
        refine pm_R_lo pm_M112 (pc_q := 14) (ls_q := [.ref 16, .int a0, .int a1, .int a2, .null, .null, pm_no, pm_no]) (st_q := []) rfl rfl rfl ?_
        refine pm_R_lo pm_M112 (pc_q := 16) rfl rfl rfl ?_
        refine pm_R_br pm_M112 (pc_q := 33) rfl rfl ?_
        refine pm_R_op pm_M112 (pc_q := 34) (st_q := [.int (-1)]) rfl rfl rfl ?_
        exact pm_R_ret pm_M112 (r := some (.int (-1))) rfl rfl (K (-1) m h T (cl_F.refl (ck := ck) (A := [32, 38]) (n := 0) (s := 0) T.1) (rf_W.refl [] m))
      · have B366 : sf_B 0 2147483647 a1 := sf_leR (Int32.not_lt.mp c364) sf_k0 (sf_any a1)
        refine pm_R_lo pm_M66 (pc_q := 5) rfl rfl rfl ?_
        refine pm_R_lo pm_M66 (pc_q := 6) rfl rfl rfl ?_
        refine pm_R_get pm_M66 (pc_q := 9) (v := .ref 17) rfl rfl T.e16 (by decide) (T.lt (by decide)) rfl rfl ?_
        refine pm_R_get pm_M66 (pc_q := 12) (v := .ref 23) rfl rfl T.e17 (by decide) (T.lt (by decide)) rfl rfl ?_
        refine pm_R_op pm_M66 (pc_q := 13) (st_q := [.int 1, .ref 23, .int a1]) rfl rfl rfl ?_
        obtain ⟨z367, ez368⟩ : ∃ y, f25 (Int32.toNatClampNeg 1) = y := ⟨_, rfl⟩
        have B369 : sf_B 0 3 z367 := ez368 ▸ (b27 1)
        refine pm_R_iald pm_M66 (pc_q := 14) (v := z367) rfl e26 (T.lt (by decide)) rfl ez368 rfl ?_
        refine pm_R_icmp pm_M66 (t := 21) (pc_q := 17) rfl rfl rfl (fun c370 => ?_) (fun c370 => ?_)
        · have B371 : sf_B 0 2 a1 := sf_ltL c370 B366 B369
          have B372 : sf_B 1 3 z367 := sf_ltR c370 B366 B369
          refine pm_R_lo pm_M66 (pc_q := 22) rfl rfl rfl ?_
          refine pm_R_get pm_M66 (pc_q := 25) (v := .ref 17) rfl rfl T.e16 (by decide) (T.lt (by decide)) rfl rfl ?_
          refine pm_R_get pm_M66 (pc_q := 28) (v := .ref 20) rfl rfl T.e17 (by decide) (T.lt (by decide)) rfl rfl ?_
          refine pm_R_lo pm_M66 (pc_q := 29) rfl rfl rfl ?_
          obtain ⟨f373, e374, b375⟩ := T.C 20 (by decide) (by decide)
          obtain ⟨l376, hx377⟩ := cl_there1 T e26 e374 ez368 c370 B371 (by decide)
          have hk378 := b375 _ _ hx377
          refine pm_R_aald pm_M66 (pc_q := 30) (v := .ref l376) rfl e374 (by decide) (by decide) (by decide) (T.lt (by decide)) (sf_in B371 (by decide) (by decide)) (by rw [hx377]; rfl) rfl ?_
          refine pm_R_ret pm_M66 (r := some (.ref l376)) rfl rfl ?_
          show pm_R _ 112 12 [.ref 16, .int a0, .int a1, .int a2, .null, pm_no, pm_no, pm_no] [.ref l376] _ _
          refine pm_R_lo pm_M112 (pc_q := 14) (ls_q := [.ref 16, .int a0, .int a1, .int a2, .null, .ref l376, pm_no, pm_no]) (st_q := []) rfl rfl rfl ?_
          refine pm_R_lo pm_M112 (pc_q := 16) rfl rfl rfl ?_
          refine pm_R_br pm_M112 (pc_q := 33) rfl rfl ?_
          refine pm_R_op pm_M112 (pc_q := 34) (st_q := [.int (-1)]) rfl rfl rfl ?_
          exact pm_R_ret pm_M112 (r := some (.int (-1))) rfl rfl (K (-1) m h T (cl_F.refl (ck := ck) (A := [32, 38]) (n := 0) (s := 0) T.1) (rf_W.refl [] m))
        · skip
          refine pm_R_op pm_M66 (pc_q := 18) (st_q := [.null]) rfl rfl rfl ?_
          refine pm_R_br pm_M66 (pc_q := 30) rfl rfl ?_
          refine pm_R_ret pm_M66 (r := some (.null)) rfl rfl ?_
          show pm_R _ 112 12 [.ref 16, .int a0, .int a1, .int a2, .null, pm_no, pm_no, pm_no] [.null] _ _
          refine pm_R_lo pm_M112 (pc_q := 14) (ls_q := [.ref 16, .int a0, .int a1, .int a2, .null, .null, pm_no, pm_no]) (st_q := []) rfl rfl rfl ?_
          refine pm_R_lo pm_M112 (pc_q := 16) rfl rfl rfl ?_
          refine pm_R_br pm_M112 (pc_q := 33) rfl rfl ?_
          refine pm_R_op pm_M112 (pc_q := 34) (st_q := [.int (-1)]) rfl rfl rfl ?_
          exact pm_R_ret pm_M112 (r := some (.int (-1))) rfl rfl (K (-1) m h T (cl_F.refl (ck := ck) (A := [32, 38]) (n := 0) (s := 0) T.1) (rf_W.refl [] m))

set_option maxRecDepth 100000 in
set_option maxHeartbeats 4000000 in
/-- SilentTable.idle -/
theorem cl_c113 {d : Nat} {ck : cl_K} {E : Nat → pm_E} {m : Nat → Int32} {o : Nat → Option Nat} {h : pm_H} {Q : Option Value → pm_H → Prop} {a0 : Int32} {a1 : Int32} (G : cl_G ck E) (T : cl_T ck E m o h)  (K : ∀ (r : Int32) (m_q : Nat → Int32) (h_q : pm_H), cl_T ck E m_q o h_q → cl_F ck [32, 38] 0 0 h h_q → rf_W [] m m_q → Q (some (.int r)) h_q) : pm_R (d + 5) 113 0 [.ref 16, .int a0, .int a1, pm_no, pm_no, pm_no, pm_no, pm_no, pm_no] [] h Q := by
  refine pm_R_lo pm_M113 (pc_q := 1) rfl rfl rfl ?_
  refine pm_R_lo pm_M113 (pc_q := 2) rfl rfl rfl ?_
  refine pm_R_cv pm_M113 (pc_q := 5) (a := 16) (ra := [.int a0]) (rest := []) (ls_q := [.ref 16, .int a0]) rfl rfl (Or.inl rfl) pm_M62 T.e16 rfl (by decide) (T.lt (by decide)) rfl rfl (Nat.le_of_ble_eq_true rfl) rfl rfl ?_
  refine pm_R_lo pm_M62 (pc_q := 1) rfl rfl rfl ?_
  refine pm_R_ifc pm_M62 (t := 17) (pc_q := 4) rfl rfl rfl (fun c1 => ?_) (fun c1 => ?_)
  · have B2 : sf_B (-2147483648) (-1) a0 := sf_ltL c1 (sf_any a0) sf_k0
    refine pm_R_op pm_M62 (pc_q := 18) (st_q := [.null]) rfl rfl rfl ?_
    refine pm_R_br pm_M62 (pc_q := 30) rfl rfl ?_
    refine pm_R_ret pm_M62 (r := some (.null)) rfl rfl ?_
    show pm_R _ 113 5 [.ref 16, .int a0, .int a1, pm_no, pm_no, pm_no, pm_no, pm_no, pm_no] [.null] _ _
    refine pm_R_lo pm_M113 (pc_q := 6) (ls_q := [.ref 16, .int a0, .int a1, .null, pm_no, pm_no, pm_no, pm_no, pm_no]) (st_q := []) rfl rfl rfl ?_
    refine pm_R_lo pm_M113 (pc_q := 7) rfl rfl rfl ?_
    refine pm_R_lo pm_M113 (pc_q := 8) rfl rfl rfl ?_
    refine pm_R_cv pm_M113 (pc_q := 11) (a := 16) (ra := [.int a1]) (rest := []) (ls_q := [.ref 16, .int a1]) rfl rfl (Or.inl rfl) pm_M66 T.e16 rfl (by decide) (T.lt (by decide)) rfl rfl (Nat.le_of_ble_eq_true rfl) rfl rfl ?_
    refine pm_R_lo pm_M66 (pc_q := 1) rfl rfl rfl ?_
    refine pm_R_ifc pm_M66 (t := 17) (pc_q := 4) rfl rfl rfl (fun c3 => ?_) (fun c3 => ?_)
    · have B4 : sf_B (-2147483648) (-1) a1 := sf_ltL c3 (sf_any a1) sf_k0
      refine pm_R_op pm_M66 (pc_q := 18) (st_q := [.null]) rfl rfl rfl ?_
      refine pm_R_br pm_M66 (pc_q := 30) rfl rfl ?_
      refine pm_R_ret pm_M66 (r := some (.null)) rfl rfl ?_
      show pm_R _ 113 11 [.ref 16, .int a0, .int a1, .null, pm_no, pm_no, pm_no, pm_no, pm_no] [.null] _ _
      refine pm_R_lo pm_M113 (pc_q := 13) (ls_q := [.ref 16, .int a0, .int a1, .null, .null, pm_no, pm_no, pm_no, pm_no]) (st_q := []) rfl rfl rfl ?_
      refine pm_R_lo pm_M113 (pc_q := 14) rfl rfl rfl ?_
      refine pm_R_br pm_M113 (pc_q := 22) rfl rfl ?_
      refine pm_R_op pm_M113 (pc_q := 23) (st_q := [.int (-1)]) rfl rfl rfl ?_
      exact pm_R_ret pm_M113 (r := some (.int (-1))) rfl rfl (K (-1) m h T (cl_F.refl (ck := ck) (A := [32, 38]) (n := 0) (s := 0) T.1) (rf_W.refl [] m))
    · have B5 : sf_B 0 2147483647 a1 := sf_leR (Int32.not_lt.mp c3) sf_k0 (sf_any a1)
      refine pm_R_lo pm_M66 (pc_q := 5) rfl rfl rfl ?_
      refine pm_R_lo pm_M66 (pc_q := 6) rfl rfl rfl ?_
      refine pm_R_get pm_M66 (pc_q := 9) (v := .ref 17) rfl rfl T.e16 (by decide) (T.lt (by decide)) rfl rfl ?_
      refine pm_R_get pm_M66 (pc_q := 12) (v := .ref 23) rfl rfl T.e17 (by decide) (T.lt (by decide)) rfl rfl ?_
      refine pm_R_op pm_M66 (pc_q := 13) (st_q := [.int 1, .ref 23, .int a1]) rfl rfl rfl ?_
      obtain ⟨f9, e10, b11⟩ := T.C 23 (by decide) (by decide)
      obtain ⟨z6, ez7⟩ : ∃ y, f9 (Int32.toNatClampNeg 1) = y := ⟨_, rfl⟩
      have B8 : sf_B 0 3 z6 := ez7 ▸ (b11 1)
      refine pm_R_iald pm_M66 (pc_q := 14) (v := z6) rfl e10 (T.lt (by decide)) rfl ez7 rfl ?_
      refine pm_R_icmp pm_M66 (t := 21) (pc_q := 17) rfl rfl rfl (fun c12 => ?_) (fun c12 => ?_)
      · have B13 : sf_B 0 2 a1 := sf_ltL c12 B5 B8
        have B14 : sf_B 1 3 z6 := sf_ltR c12 B5 B8
        refine pm_R_lo pm_M66 (pc_q := 22) rfl rfl rfl ?_
        refine pm_R_get pm_M66 (pc_q := 25) (v := .ref 17) rfl rfl T.e16 (by decide) (T.lt (by decide)) rfl rfl ?_
        refine pm_R_get pm_M66 (pc_q := 28) (v := .ref 20) rfl rfl T.e17 (by decide) (T.lt (by decide)) rfl rfl ?_
        refine pm_R_lo pm_M66 (pc_q := 29) rfl rfl rfl ?_
        obtain ⟨f15, e16, b17⟩ := T.C 20 (by decide) (by decide)
        obtain ⟨l18, hx19⟩ := cl_there1 T e10 e16 ez7 c12 B13 (by decide)
        have hk20 := b17 _ _ hx19
        refine pm_R_aald pm_M66 (pc_q := 30) (v := .ref l18) rfl e16 (by decide) (by decide) (by decide) (T.lt (by decide)) (sf_in B13 (by decide) (by decide)) (by rw [hx19]; rfl) rfl ?_
        refine pm_R_ret pm_M66 (r := some (.ref l18)) rfl rfl ?_
        show pm_R _ 113 11 [.ref 16, .int a0, .int a1, .null, pm_no, pm_no, pm_no, pm_no, pm_no] [.ref l18] _ _
        refine pm_R_lo pm_M113 (pc_q := 13) (ls_q := [.ref 16, .int a0, .int a1, .null, .ref l18, pm_no, pm_no, pm_no, pm_no]) (st_q := []) rfl rfl rfl ?_
        refine pm_R_lo pm_M113 (pc_q := 14) rfl rfl rfl ?_
        refine pm_R_br pm_M113 (pc_q := 22) rfl rfl ?_
        refine pm_R_op pm_M113 (pc_q := 23) (st_q := [.int (-1)]) rfl rfl rfl ?_
        exact pm_R_ret pm_M113 (r := some (.int (-1))) rfl rfl (K (-1) m h T (cl_F.refl (ck := ck) (A := [32, 38]) (n := 0) (s := 0) T.1) (rf_W.refl [] m))
      · skip
        refine pm_R_op pm_M66 (pc_q := 18) (st_q := [.null]) rfl rfl rfl ?_
        refine pm_R_br pm_M66 (pc_q := 30) rfl rfl ?_
        refine pm_R_ret pm_M66 (r := some (.null)) rfl rfl ?_
        show pm_R _ 113 11 [.ref 16, .int a0, .int a1, .null, pm_no, pm_no, pm_no, pm_no, pm_no] [.null] _ _
        refine pm_R_lo pm_M113 (pc_q := 13) (ls_q := [.ref 16, .int a0, .int a1, .null, .null, pm_no, pm_no, pm_no, pm_no]) (st_q := []) rfl rfl rfl ?_
        refine pm_R_lo pm_M113 (pc_q := 14) rfl rfl rfl ?_
        refine pm_R_br pm_M113 (pc_q := 22) rfl rfl ?_
        refine pm_R_op pm_M113 (pc_q := 23) (st_q := [.int (-1)]) rfl rfl rfl ?_
        exact pm_R_ret pm_M113 (r := some (.int (-1))) rfl rfl (K (-1) m h T (cl_F.refl (ck := ck) (A := [32, 38]) (n := 0) (s := 0) T.1) (rf_W.refl [] m))
  · have B21 : sf_B 0 2147483647 a0 := sf_leR (Int32.not_lt.mp c1) sf_k0 (sf_any a0)
    refine pm_R_lo pm_M62 (pc_q := 5) rfl rfl rfl ?_
    refine pm_R_lo pm_M62 (pc_q := 6) rfl rfl rfl ?_
    refine pm_R_get pm_M62 (pc_q := 9) (v := .ref 17) rfl rfl T.e16 (by decide) (T.lt (by decide)) rfl rfl ?_
    refine pm_R_get pm_M62 (pc_q := 12) (v := .ref 23) rfl rfl T.e17 (by decide) (T.lt (by decide)) rfl rfl ?_
    refine pm_R_op pm_M62 (pc_q := 13) (st_q := [.int 0, .ref 23, .int a0]) rfl rfl rfl ?_
    obtain ⟨f25, e26, b27⟩ := T.C 23 (by decide) (by decide)
    obtain ⟨z22, ez23⟩ : ∃ y, f25 (Int32.toNatClampNeg 0) = y := ⟨_, rfl⟩
    have B24 : sf_B 0 2 z22 := ez23 ▸ (b27 0)
    refine pm_R_iald pm_M62 (pc_q := 14) (v := z22) rfl e26 (T.lt (by decide)) rfl ez23 rfl ?_
    refine pm_R_icmp pm_M62 (t := 21) (pc_q := 17) rfl rfl rfl (fun c28 => ?_) (fun c28 => ?_)
    · have B29 : sf_B 0 1 a0 := sf_ltL c28 B21 B24
      have B30 : sf_B 1 2 z22 := sf_ltR c28 B21 B24
      refine pm_R_lo pm_M62 (pc_q := 22) rfl rfl rfl ?_
      refine pm_R_get pm_M62 (pc_q := 25) (v := .ref 17) rfl rfl T.e16 (by decide) (T.lt (by decide)) rfl rfl ?_
      refine pm_R_get pm_M62 (pc_q := 28) (v := .ref 19) rfl rfl T.e17 (by decide) (T.lt (by decide)) rfl rfl ?_
      refine pm_R_lo pm_M62 (pc_q := 29) rfl rfl rfl ?_
      obtain ⟨f31, e32, b33⟩ := T.C 19 (by decide) (by decide)
      obtain ⟨l34, hx35⟩ := cl_there0 T e26 e32 ez23 c28 B29 (by decide)
      have hk36 := b33 _ _ hx35
      refine pm_R_aald pm_M62 (pc_q := 30) (v := .ref l34) rfl e32 (by decide) (by decide) (by decide) (T.lt (by decide)) (sf_in B29 (by decide) (by decide)) (by rw [hx35]; rfl) rfl ?_
      refine pm_R_ret pm_M62 (r := some (.ref l34)) rfl rfl ?_
      show pm_R _ 113 5 [.ref 16, .int a0, .int a1, pm_no, pm_no, pm_no, pm_no, pm_no, pm_no] [.ref l34] _ _
      refine pm_R_lo pm_M113 (pc_q := 6) (ls_q := [.ref 16, .int a0, .int a1, .ref l34, pm_no, pm_no, pm_no, pm_no, pm_no]) (st_q := []) rfl rfl rfl ?_
      refine pm_R_lo pm_M113 (pc_q := 7) rfl rfl rfl ?_
      refine pm_R_lo pm_M113 (pc_q := 8) rfl rfl rfl ?_
      refine pm_R_cv pm_M113 (pc_q := 11) (a := 16) (ra := [.int a1]) (rest := []) (ls_q := [.ref 16, .int a1]) rfl rfl (Or.inl rfl) pm_M66 T.e16 rfl (by decide) (T.lt (by decide)) rfl rfl (Nat.le_of_ble_eq_true rfl) rfl rfl ?_
      refine pm_R_lo pm_M66 (pc_q := 1) rfl rfl rfl ?_
      refine pm_R_ifc pm_M66 (t := 17) (pc_q := 4) rfl rfl rfl (fun c37 => ?_) (fun c37 => ?_)
      · have B38 : sf_B (-2147483648) (-1) a1 := sf_ltL c37 (sf_any a1) sf_k0
        refine pm_R_op pm_M66 (pc_q := 18) (st_q := [.null]) rfl rfl rfl ?_
        refine pm_R_br pm_M66 (pc_q := 30) rfl rfl ?_
        refine pm_R_ret pm_M66 (r := some (.null)) rfl rfl ?_
        show pm_R _ 113 11 [.ref 16, .int a0, .int a1, .ref l34, pm_no, pm_no, pm_no, pm_no, pm_no] [.null] _ _
        refine pm_R_lo pm_M113 (pc_q := 13) (ls_q := [.ref 16, .int a0, .int a1, .ref l34, .null, pm_no, pm_no, pm_no, pm_no]) (st_q := []) rfl rfl rfl ?_
        refine pm_R_lo pm_M113 (pc_q := 14) rfl rfl rfl ?_
        refine pm_R_br pm_M113 (pc_q := 17) rfl rfl ?_
        refine pm_R_lo pm_M113 (pc_q := 19) rfl rfl rfl ?_
        refine pm_R_br pm_M113 (pc_q := 22) rfl rfl ?_
        refine pm_R_op pm_M113 (pc_q := 23) (st_q := [.int (-1)]) rfl rfl rfl ?_
        exact pm_R_ret pm_M113 (r := some (.int (-1))) rfl rfl (K (-1) m h T (cl_F.refl (ck := ck) (A := [32, 38]) (n := 0) (s := 0) T.1) (rf_W.refl [] m))
      · have B39 : sf_B 0 2147483647 a1 := sf_leR (Int32.not_lt.mp c37) sf_k0 (sf_any a1)
        refine pm_R_lo pm_M66 (pc_q := 5) rfl rfl rfl ?_
        refine pm_R_lo pm_M66 (pc_q := 6) rfl rfl rfl ?_
        refine pm_R_get pm_M66 (pc_q := 9) (v := .ref 17) rfl rfl T.e16 (by decide) (T.lt (by decide)) rfl rfl ?_
        refine pm_R_get pm_M66 (pc_q := 12) (v := .ref 23) rfl rfl T.e17 (by decide) (T.lt (by decide)) rfl rfl ?_
        refine pm_R_op pm_M66 (pc_q := 13) (st_q := [.int 1, .ref 23, .int a1]) rfl rfl rfl ?_
        obtain ⟨z40, ez41⟩ : ∃ y, f25 (Int32.toNatClampNeg 1) = y := ⟨_, rfl⟩
        have B42 : sf_B 0 3 z40 := ez41 ▸ (b27 1)
        refine pm_R_iald pm_M66 (pc_q := 14) (v := z40) rfl e26 (T.lt (by decide)) rfl ez41 rfl ?_
        refine pm_R_icmp pm_M66 (t := 21) (pc_q := 17) rfl rfl rfl (fun c43 => ?_) (fun c43 => ?_)
        · have B44 : sf_B 0 2 a1 := sf_ltL c43 B39 B42
          have B45 : sf_B 1 3 z40 := sf_ltR c43 B39 B42
          refine pm_R_lo pm_M66 (pc_q := 22) rfl rfl rfl ?_
          refine pm_R_get pm_M66 (pc_q := 25) (v := .ref 17) rfl rfl T.e16 (by decide) (T.lt (by decide)) rfl rfl ?_
          refine pm_R_get pm_M66 (pc_q := 28) (v := .ref 20) rfl rfl T.e17 (by decide) (T.lt (by decide)) rfl rfl ?_
          refine pm_R_lo pm_M66 (pc_q := 29) rfl rfl rfl ?_
          obtain ⟨f46, e47, b48⟩ := T.C 20 (by decide) (by decide)
          obtain ⟨l49, hx50⟩ := cl_there1 T e26 e47 ez41 c43 B44 (by decide)
          have hk51 := b48 _ _ hx50
          refine pm_R_aald pm_M66 (pc_q := 30) (v := .ref l49) rfl e47 (by decide) (by decide) (by decide) (T.lt (by decide)) (sf_in B44 (by decide) (by decide)) (by rw [hx50]; rfl) rfl ?_
          refine pm_R_ret pm_M66 (r := some (.ref l49)) rfl rfl ?_
          show pm_R _ 113 11 [.ref 16, .int a0, .int a1, .ref l34, pm_no, pm_no, pm_no, pm_no, pm_no] [.ref l49] _ _
          refine pm_R_lo pm_M113 (pc_q := 13) (ls_q := [.ref 16, .int a0, .int a1, .ref l34, .ref l49, pm_no, pm_no, pm_no, pm_no]) (st_q := []) rfl rfl rfl ?_
          refine pm_R_lo pm_M113 (pc_q := 14) rfl rfl rfl ?_
          refine pm_R_br pm_M113 (pc_q := 17) rfl rfl ?_
          refine pm_R_lo pm_M113 (pc_q := 19) rfl rfl rfl ?_
          refine pm_R_br pm_M113 (pc_q := 24) rfl rfl ?_
          refine pm_R_lo pm_M113 (pc_q := 26) rfl rfl rfl ?_
          obtain ⟨n52, f53, h54, h55, eE56, eE57, b58⟩ := (G.2.2.1 l49 hk51).2
          have kq59 := (G.2.2.1 l49 hk51).1
          refine pm_R_get pm_M113 (pc_q := 29) (v := .int (Int32.ofNat n52)) rfl rfl (T.im hk51 (by decide) (by decide) eE56) (G.ge hk51 (by decide)) (T.al hk51 (by decide)) rfl rfl ?_
          refine pm_R_op pm_M113 (pc_q := 30) (st_q := [.int 2, .int (Int32.ofNat n52)]) rfl rfl rfl ?_
          refine pm_R_icmp pm_M113 (t := 35) (pc_q := 33) rfl rfl rfl (fun c60 => ?_) (fun c60 => ?_)
          · have B61 : sf_B 2 12 (Int32.ofNat n52) := sf_leR c60 sf_k2 (sf_ofB1 h55 h54 (by decide))
            refine pm_R_lo pm_M113 (pc_q := 36) rfl rfl rfl ?_
            refine pm_R_lo pm_M113 (pc_q := 37) rfl rfl rfl ?_
            refine pm_R_lo pm_M113 (pc_q := 39) rfl rfl rfl ?_
            refine pm_R_op pm_M113 (pc_q := 40) (st_q := [.int 0, .ref l49, .ref l34, .ref 16]) rfl rfl rfl ?_
            refine pm_R_cv pm_M113 (pc_q := 43) (a := 16) (ra := [.int 0, .ref l49, .ref l34]) (rest := []) (ls_q := [.ref 16, .ref l34, .ref l49, .int 0]) rfl rfl (Or.inl rfl) pm_M98 T.e16 rfl (by decide) (T.lt (by decide)) rfl rfl (Nat.le_of_ble_eq_true rfl) rfl rfl ?_
            refine cl_c98 (d := d + 0) G T hk36 hk51 (sf_weak sf_k0 (by decide) (by decide)) (fun r62 m64 h65 T66 F67 W68 => ?_)
            have F69 := (cl_F.refl (ck := ck) (A := [32, 38]) (n := 0) (s := 0) T.1).trans (N := 0) (S := 0) F67 (by decide) (by decide) (by decide)
            have W70 : rf_W [] m m64 := (rf_W.refl [] m).trans W68 (by decide)
            show pm_R _ 113 43 [.ref 16, .int a0, .int a1, .ref l34, .ref l49, pm_no, pm_no, pm_no, pm_no] [.long r62] _ _
            refine pm_R_lo pm_M113 (pc_q := 45) (ls_q := [.ref 16, .int a0, .int a1, .ref l34, .ref l49, .long r62, pm_no, pm_no, pm_no]) (st_q := []) rfl rfl rfl ?_
            refine pm_R_op pm_M113 (pc_q := 46) (st_q := [.int 0]) rfl rfl rfl ?_
            refine pm_R_lo pm_M113 (pc_q := 48) (ls_q := [.ref 16, .int a0, .int a1, .ref l34, .ref l49, .long r62, pm_no, .int 0, pm_no]) (st_q := []) rfl rfl rfl ?_
            refine pm_R_op pm_M113 (pc_q := 49) (st_q := [.int 0]) rfl rfl rfl ?_
            refine pm_R_lo pm_M113 (pc_q := 51) (ls_q := [.ref 16, .int a0, .int a1, .ref l34, .ref l49, .long r62, pm_no, .int 0, .int 0]) (st_q := []) rfl rfl rfl ?_
            have L_285 : ∀ (N : Nat) (h_285 : pm_H) (m_285 : Nat → Int32) (x7_285 : Int32) (x8_285 : Int32), cl_T ck E m_285 o h_285 → cl_F ck [32, 38] 0 0 h h_285 → rf_W [] m64 m_285 → sf_B (-2147483648) 2147483647 x7_285 → sf_B 0 12 x8_285 → (12 - x8_285.toInt).toNat = N → pm_R (d + 5) 113 51 [.ref 16, .int a0, .int a1, .ref l34, .ref l49, .long r62, pm_no, .int x7_285, .int x8_285] [] h_285 Q := by
              intro N
              induction N using Nat.strongRecOn with
              | ind N ih_285 =>
                intro h_285 m_285 x7_285 x8_285 T_285 F_285 W_285 Bx7_285 Bx8_285 hN_285
                have W288 : rf_W [] m m_285 := W70.trans W_285 (by decide)
                refine pm_R_lo pm_M113 (pc_q := 53) rfl rfl rfl ?_
                refine pm_R_lo pm_M113 (pc_q := 55) rfl rfl rfl ?_
                refine pm_R_get pm_M113 (pc_q := 58) (v := .int (Int32.ofNat n52)) rfl rfl (T_285.im hk51 (by decide) (by decide) eE56) (G.ge hk51 (by decide)) (T_285.al hk51 (by decide)) rfl rfl ?_
                refine pm_R_icmp pm_M113 (t := 91) (pc_q := 61) rfl rfl rfl (fun c289 => ?_) (fun c289 => ?_)
                · have B290 : sf_B 1 12 x8_285 := sf_leR c289 (sf_ofB1 h55 h54 (by decide)) Bx8_285
                  refine pm_R_lo pm_M113 (pc_q := 93) rfl rfl rfl ?_
                  exact pm_R_ret pm_M113 (r := some (.int x7_285)) rfl (pm_ret_i _) (K x7_285 m_285 h_285 T_285 F_285 W288)
                · have B291 : sf_B 0 11 x8_285 := sf_ltL (Int32.not_le.mp c289) Bx8_285 (sf_ofB1 h55 h54 (by decide))
                  refine pm_R_lo pm_M113 (pc_q := 62) rfl rfl rfl ?_
                  refine pm_R_lo pm_M113 (pc_q := 63) rfl rfl rfl ?_
                  refine pm_R_lo pm_M113 (pc_q := 65) rfl rfl rfl ?_
                  refine pm_R_lo pm_M113 (pc_q := 67) rfl rfl rfl ?_
                  refine pm_R_cv pm_M113 (pc_q := 70) (a := 16) (ra := [.int x8_285, .ref l49, .ref l34]) (rest := []) (ls_q := [.ref 16, .ref l34, .ref l49, .int x8_285, pm_no]) rfl rfl (Or.inl rfl) pm_M114 T_285.e16 rfl (by decide) (T_285.lt (by decide)) rfl rfl (Nat.le_of_ble_eq_true rfl) rfl rfl ?_
                  refine cl_c114 (d := d + 0) G T_285 hk36 hk51 B291 (fun r292 m294 h295 T296 F297 W298 => ?_)
                  have F299 := F_285.trans (N := 0) (S := 0) F297 (by decide) (by decide) (by decide)
                  have W300 : rf_W [] m m294 := W288.trans W298 (by decide)
                  have W301 : rf_W [] m64 m294 := W_285.trans W298 (by decide)
                  show pm_R _ 113 70 [.ref 16, .int a0, .int a1, .ref l34, .ref l49, .long r62, pm_no, .int x7_285, .int x8_285] [.long r292] _ _
                  refine pm_R_lo pm_M113 (pc_q := 72) rfl rfl rfl ?_
                  refine sf_R_lcmp pm_M113 (pc_q := 73) rfl rfl (fun z302 e303 => ?_)
                  refine pm_R_ifc pm_M113 (t := 85) (pc_q := 76) rfl rfl rfl (fun c304 => ?_) (fun c304 => ?_)
                  · have k305 := sf_lneC e303 c304
                    refine sf_R_iinc pm_M113 (pc_q := 88) (ls_q := fun z => [.ref 16, .int a0, .int a1, .ref l34, .ref l49, .long r62, pm_no, .int x7_285, .int z]) rfl B291 rfl (by decide) (by decide) (by decide) (fun _ => rfl) rfl (fun z306 e307 B308 => ?_)
                    show pm_R _ 113 88 [.ref 16, .int a0, .int a1, .ref l34, .ref l49, .long r62, pm_no, .int x7_285, .int z306] [] _ _
                    refine pm_R_br pm_M113 (pc_q := 51) rfl rfl ?_
                    exact ih_285 _ (sf_up hN_285 e307 B291 (by decide) (by decide)) h295 m294 x7_285 z306 T296 F299 W301 Bx7_285 (sf_weak B308 (by decide) (by decide)) rfl
                  · have B309 : sf_B 0 0 z302 := sf_eqL (Classical.not_not.mp c304) sf_k0
                    have k310 := lf_ge e303 B309 (by decide)
                    refine pm_R_lo pm_M113 (pc_q := 78) rfl rfl rfl ?_
                    refine pm_R_op pm_M113 (pc_q := 79) (st_q := [.int 1, .int x7_285]) rfl rfl rfl ?_
                    refine pm_R_lo pm_M113 (pc_q := 81) rfl rfl rfl ?_
                    refine sf_R_iany pm_M113 (pc_q := 82) (st := [.int x7_285]) rfl rfl rfl (fun z314 => ?_)
                    refine sf_R_iany pm_M113 (pc_q := 83) (st := []) rfl rfl rfl (fun z318 => ?_)
                    refine pm_R_lo pm_M113 (pc_q := 85) (ls_q := [.ref 16, .int a0, .int a1, .ref l34, .ref l49, .long r62, pm_no, .int z318, .int x8_285]) (st_q := []) rfl rfl rfl ?_
                    refine sf_R_iinc pm_M113 (pc_q := 88) (ls_q := fun z => [.ref 16, .int a0, .int a1, .ref l34, .ref l49, .long r62, pm_no, .int z318, .int z]) rfl B291 rfl (by decide) (by decide) (by decide) (fun _ => rfl) rfl (fun z319 e320 B321 => ?_)
                    show pm_R _ 113 88 [.ref 16, .int a0, .int a1, .ref l34, .ref l49, .long r62, pm_no, .int z318, .int z319] [] _ _
                    refine pm_R_br pm_M113 (pc_q := 51) rfl rfl ?_
                    exact ih_285 _ (sf_up hN_285 e320 B291 (by decide) (by decide)) h295 m294 z318 z319 T296 F299 W301 (sf_any z318) (sf_weak B321 (by decide) (by decide)) rfl
            exact L_285 _ h65 m64 0 0 T66 F69 (rf_W.refl _ _) (sf_weak sf_k0 (by decide) (by decide)) (sf_weak sf_k0 (by decide) (by decide)) rfl
          · have B322 : sf_B 1 1 (Int32.ofNat n52) := sf_ltL (Int32.not_le.mp c60) (sf_ofB1 h55 h54 (by decide)) sf_k2
            refine pm_R_op pm_M113 (pc_q := 34) (st_q := [.int 0]) rfl rfl rfl ?_
            exact pm_R_ret pm_M113 (r := some (.int 0)) rfl rfl (K 0 m h T (cl_F.refl (ck := ck) (A := [32, 38]) (n := 0) (s := 0) T.1) (rf_W.refl [] m))
        · skip
          refine pm_R_op pm_M66 (pc_q := 18) (st_q := [.null]) rfl rfl rfl ?_
          refine pm_R_br pm_M66 (pc_q := 30) rfl rfl ?_
          refine pm_R_ret pm_M66 (r := some (.null)) rfl rfl ?_
          show pm_R _ 113 11 [.ref 16, .int a0, .int a1, .ref l34, pm_no, pm_no, pm_no, pm_no, pm_no] [.null] _ _
          refine pm_R_lo pm_M113 (pc_q := 13) (ls_q := [.ref 16, .int a0, .int a1, .ref l34, .null, pm_no, pm_no, pm_no, pm_no]) (st_q := []) rfl rfl rfl ?_
          refine pm_R_lo pm_M113 (pc_q := 14) rfl rfl rfl ?_
          refine pm_R_br pm_M113 (pc_q := 17) rfl rfl ?_
          refine pm_R_lo pm_M113 (pc_q := 19) rfl rfl rfl ?_
          refine pm_R_br pm_M113 (pc_q := 22) rfl rfl ?_
          refine pm_R_op pm_M113 (pc_q := 23) (st_q := [.int (-1)]) rfl rfl rfl ?_
          exact pm_R_ret pm_M113 (r := some (.int (-1))) rfl rfl (K (-1) m h T (cl_F.refl (ck := ck) (A := [32, 38]) (n := 0) (s := 0) T.1) (rf_W.refl [] m))
    · skip
      refine pm_R_op pm_M62 (pc_q := 18) (st_q := [.null]) rfl rfl rfl ?_
      refine pm_R_br pm_M62 (pc_q := 30) rfl rfl ?_
      refine pm_R_ret pm_M62 (r := some (.null)) rfl rfl ?_
      show pm_R _ 113 5 [.ref 16, .int a0, .int a1, pm_no, pm_no, pm_no, pm_no, pm_no, pm_no] [.null] _ _
      refine pm_R_lo pm_M113 (pc_q := 6) (ls_q := [.ref 16, .int a0, .int a1, .null, pm_no, pm_no, pm_no, pm_no, pm_no]) (st_q := []) rfl rfl rfl ?_
      refine pm_R_lo pm_M113 (pc_q := 7) rfl rfl rfl ?_
      refine pm_R_lo pm_M113 (pc_q := 8) rfl rfl rfl ?_
      refine pm_R_cv pm_M113 (pc_q := 11) (a := 16) (ra := [.int a1]) (rest := []) (ls_q := [.ref 16, .int a1]) rfl rfl (Or.inl rfl) pm_M66 T.e16 rfl (by decide) (T.lt (by decide)) rfl rfl (Nat.le_of_ble_eq_true rfl) rfl rfl ?_
      refine pm_R_lo pm_M66 (pc_q := 1) rfl rfl rfl ?_
      refine pm_R_ifc pm_M66 (t := 17) (pc_q := 4) rfl rfl rfl (fun c323 => ?_) (fun c323 => ?_)
      · have B324 : sf_B (-2147483648) (-1) a1 := sf_ltL c323 (sf_any a1) sf_k0
        refine pm_R_op pm_M66 (pc_q := 18) (st_q := [.null]) rfl rfl rfl ?_
        refine pm_R_br pm_M66 (pc_q := 30) rfl rfl ?_
        refine pm_R_ret pm_M66 (r := some (.null)) rfl rfl ?_
        show pm_R _ 113 11 [.ref 16, .int a0, .int a1, .null, pm_no, pm_no, pm_no, pm_no, pm_no] [.null] _ _
        refine pm_R_lo pm_M113 (pc_q := 13) (ls_q := [.ref 16, .int a0, .int a1, .null, .null, pm_no, pm_no, pm_no, pm_no]) (st_q := []) rfl rfl rfl ?_
        refine pm_R_lo pm_M113 (pc_q := 14) rfl rfl rfl ?_
        refine pm_R_br pm_M113 (pc_q := 22) rfl rfl ?_
        refine pm_R_op pm_M113 (pc_q := 23) (st_q := [.int (-1)]) rfl rfl rfl ?_
        exact pm_R_ret pm_M113 (r := some (.int (-1))) rfl rfl (K (-1) m h T (cl_F.refl (ck := ck) (A := [32, 38]) (n := 0) (s := 0) T.1) (rf_W.refl [] m))
      · have B325 : sf_B 0 2147483647 a1 := sf_leR (Int32.not_lt.mp c323) sf_k0 (sf_any a1)
        refine pm_R_lo pm_M66 (pc_q := 5) rfl rfl rfl ?_
        refine pm_R_lo pm_M66 (pc_q := 6) rfl rfl rfl ?_
        refine pm_R_get pm_M66 (pc_q := 9) (v := .ref 17) rfl rfl T.e16 (by decide) (T.lt (by decide)) rfl rfl ?_
        refine pm_R_get pm_M66 (pc_q := 12) (v := .ref 23) rfl rfl T.e17 (by decide) (T.lt (by decide)) rfl rfl ?_
        refine pm_R_op pm_M66 (pc_q := 13) (st_q := [.int 1, .ref 23, .int a1]) rfl rfl rfl ?_
        obtain ⟨z326, ez327⟩ : ∃ y, f25 (Int32.toNatClampNeg 1) = y := ⟨_, rfl⟩
        have B328 : sf_B 0 3 z326 := ez327 ▸ (b27 1)
        refine pm_R_iald pm_M66 (pc_q := 14) (v := z326) rfl e26 (T.lt (by decide)) rfl ez327 rfl ?_
        refine pm_R_icmp pm_M66 (t := 21) (pc_q := 17) rfl rfl rfl (fun c329 => ?_) (fun c329 => ?_)
        · have B330 : sf_B 0 2 a1 := sf_ltL c329 B325 B328
          have B331 : sf_B 1 3 z326 := sf_ltR c329 B325 B328
          refine pm_R_lo pm_M66 (pc_q := 22) rfl rfl rfl ?_
          refine pm_R_get pm_M66 (pc_q := 25) (v := .ref 17) rfl rfl T.e16 (by decide) (T.lt (by decide)) rfl rfl ?_
          refine pm_R_get pm_M66 (pc_q := 28) (v := .ref 20) rfl rfl T.e17 (by decide) (T.lt (by decide)) rfl rfl ?_
          refine pm_R_lo pm_M66 (pc_q := 29) rfl rfl rfl ?_
          obtain ⟨f332, e333, b334⟩ := T.C 20 (by decide) (by decide)
          obtain ⟨l335, hx336⟩ := cl_there1 T e26 e333 ez327 c329 B330 (by decide)
          have hk337 := b334 _ _ hx336
          refine pm_R_aald pm_M66 (pc_q := 30) (v := .ref l335) rfl e333 (by decide) (by decide) (by decide) (T.lt (by decide)) (sf_in B330 (by decide) (by decide)) (by rw [hx336]; rfl) rfl ?_
          refine pm_R_ret pm_M66 (r := some (.ref l335)) rfl rfl ?_
          show pm_R _ 113 11 [.ref 16, .int a0, .int a1, .null, pm_no, pm_no, pm_no, pm_no, pm_no] [.ref l335] _ _
          refine pm_R_lo pm_M113 (pc_q := 13) (ls_q := [.ref 16, .int a0, .int a1, .null, .ref l335, pm_no, pm_no, pm_no, pm_no]) (st_q := []) rfl rfl rfl ?_
          refine pm_R_lo pm_M113 (pc_q := 14) rfl rfl rfl ?_
          refine pm_R_br pm_M113 (pc_q := 22) rfl rfl ?_
          refine pm_R_op pm_M113 (pc_q := 23) (st_q := [.int (-1)]) rfl rfl rfl ?_
          exact pm_R_ret pm_M113 (r := some (.int (-1))) rfl rfl (K (-1) m h T (cl_F.refl (ck := ck) (A := [32, 38]) (n := 0) (s := 0) T.1) (rf_W.refl [] m))
        · skip
          refine pm_R_op pm_M66 (pc_q := 18) (st_q := [.null]) rfl rfl rfl ?_
          refine pm_R_br pm_M66 (pc_q := 30) rfl rfl ?_
          refine pm_R_ret pm_M66 (r := some (.null)) rfl rfl ?_
          show pm_R _ 113 11 [.ref 16, .int a0, .int a1, .null, pm_no, pm_no, pm_no, pm_no, pm_no] [.null] _ _
          refine pm_R_lo pm_M113 (pc_q := 13) (ls_q := [.ref 16, .int a0, .int a1, .null, .null, pm_no, pm_no, pm_no, pm_no]) (st_q := []) rfl rfl rfl ?_
          refine pm_R_lo pm_M113 (pc_q := 14) rfl rfl rfl ?_
          refine pm_R_br pm_M113 (pc_q := 22) rfl rfl ?_
          refine pm_R_op pm_M113 (pc_q := 23) (st_q := [.int (-1)]) rfl rfl rfl ?_
          exact pm_R_ret pm_M113 (r := some (.int (-1))) rfl rfl (K (-1) m h T (cl_F.refl (ck := ck) (A := [32, 38]) (n := 0) (s := 0) T.1) (rf_W.refl [] m))

set_option maxRecDepth 100000 in
set_option maxHeartbeats 4000000 in
/-- SilentTable.lasts -/
theorem cl_c117 {d : Nat} {ck : cl_K} {E : Nat → pm_E} {m : Nat → Int32} {o : Nat → Option Nat} {h : pm_H} {Q : Option Value → pm_H → Prop} {a0 : Int32} {a1 : Int32} (G : cl_G ck E) (T : cl_T ck E m o h)  (K : ∀ (r : Int32) (m_q : Nat → Int32) (h_q : pm_H), cl_T ck E m_q o h_q → cl_F ck [32, 38] 0 0 h h_q → rf_W [] m m_q → sf_B (-1) 9 r → Q (some (.int r)) h_q) : pm_R (d + 5) 117 0 [.ref 16, .int a0, .int a1, pm_no, pm_no, pm_no, pm_no, pm_no] [] h Q := by
  refine pm_R_lo pm_M117 (pc_q := 1) rfl rfl rfl ?_
  refine pm_R_lo pm_M117 (pc_q := 2) rfl rfl rfl ?_
  refine pm_R_cv pm_M117 (pc_q := 5) (a := 16) (ra := [.int a0]) (rest := []) (ls_q := [.ref 16, .int a0]) rfl rfl (Or.inl rfl) pm_M62 T.e16 rfl (by decide) (T.lt (by decide)) rfl rfl (Nat.le_of_ble_eq_true rfl) rfl rfl ?_
  refine pm_R_lo pm_M62 (pc_q := 1) rfl rfl rfl ?_
  refine pm_R_ifc pm_M62 (t := 17) (pc_q := 4) rfl rfl rfl (fun c1 => ?_) (fun c1 => ?_)
  · have B2 : sf_B (-2147483648) (-1) a0 := sf_ltL c1 (sf_any a0) sf_k0
    refine pm_R_op pm_M62 (pc_q := 18) (st_q := [.null]) rfl rfl rfl ?_
    refine pm_R_br pm_M62 (pc_q := 30) rfl rfl ?_
    refine pm_R_ret pm_M62 (r := some (.null)) rfl rfl ?_
    show pm_R _ 117 5 [.ref 16, .int a0, .int a1, pm_no, pm_no, pm_no, pm_no, pm_no] [.null] _ _
    refine pm_R_lo pm_M117 (pc_q := 6) (ls_q := [.ref 16, .int a0, .int a1, .null, pm_no, pm_no, pm_no, pm_no]) (st_q := []) rfl rfl rfl ?_
    refine pm_R_lo pm_M117 (pc_q := 7) rfl rfl rfl ?_
    refine pm_R_lo pm_M117 (pc_q := 8) rfl rfl rfl ?_
    refine pm_R_cv pm_M117 (pc_q := 11) (a := 16) (ra := [.int a1]) (rest := []) (ls_q := [.ref 16, .int a1]) rfl rfl (Or.inl rfl) pm_M66 T.e16 rfl (by decide) (T.lt (by decide)) rfl rfl (Nat.le_of_ble_eq_true rfl) rfl rfl ?_
    refine pm_R_lo pm_M66 (pc_q := 1) rfl rfl rfl ?_
    refine pm_R_ifc pm_M66 (t := 17) (pc_q := 4) rfl rfl rfl (fun c3 => ?_) (fun c3 => ?_)
    · have B4 : sf_B (-2147483648) (-1) a1 := sf_ltL c3 (sf_any a1) sf_k0
      refine pm_R_op pm_M66 (pc_q := 18) (st_q := [.null]) rfl rfl rfl ?_
      refine pm_R_br pm_M66 (pc_q := 30) rfl rfl ?_
      refine pm_R_ret pm_M66 (r := some (.null)) rfl rfl ?_
      show pm_R _ 117 11 [.ref 16, .int a0, .int a1, .null, pm_no, pm_no, pm_no, pm_no] [.null] _ _
      refine pm_R_lo pm_M117 (pc_q := 13) (ls_q := [.ref 16, .int a0, .int a1, .null, .null, pm_no, pm_no, pm_no]) (st_q := []) rfl rfl rfl ?_
      refine pm_R_lo pm_M117 (pc_q := 14) rfl rfl rfl ?_
      refine pm_R_br pm_M117 (pc_q := 22) rfl rfl ?_
      refine pm_R_op pm_M117 (pc_q := 23) (st_q := [.int (-1)]) rfl rfl rfl ?_
      exact pm_R_ret pm_M117 (r := some (.int (-1))) rfl rfl (K (-1) m h T (cl_F.refl (ck := ck) (A := [32, 38]) (n := 0) (s := 0) T.1) (rf_W.refl [] m) (sf_weak sf_kn1 (by decide) (by decide)))
    · have B5 : sf_B 0 2147483647 a1 := sf_leR (Int32.not_lt.mp c3) sf_k0 (sf_any a1)
      refine pm_R_lo pm_M66 (pc_q := 5) rfl rfl rfl ?_
      refine pm_R_lo pm_M66 (pc_q := 6) rfl rfl rfl ?_
      refine pm_R_get pm_M66 (pc_q := 9) (v := .ref 17) rfl rfl T.e16 (by decide) (T.lt (by decide)) rfl rfl ?_
      refine pm_R_get pm_M66 (pc_q := 12) (v := .ref 23) rfl rfl T.e17 (by decide) (T.lt (by decide)) rfl rfl ?_
      refine pm_R_op pm_M66 (pc_q := 13) (st_q := [.int 1, .ref 23, .int a1]) rfl rfl rfl ?_
      obtain ⟨f9, e10, b11⟩ := T.C 23 (by decide) (by decide)
      obtain ⟨z6, ez7⟩ : ∃ y, f9 (Int32.toNatClampNeg 1) = y := ⟨_, rfl⟩
      have B8 : sf_B 0 3 z6 := ez7 ▸ (b11 1)
      refine pm_R_iald pm_M66 (pc_q := 14) (v := z6) rfl e10 (T.lt (by decide)) rfl ez7 rfl ?_
      refine pm_R_icmp pm_M66 (t := 21) (pc_q := 17) rfl rfl rfl (fun c12 => ?_) (fun c12 => ?_)
      · have B13 : sf_B 0 2 a1 := sf_ltL c12 B5 B8
        have B14 : sf_B 1 3 z6 := sf_ltR c12 B5 B8
        refine pm_R_lo pm_M66 (pc_q := 22) rfl rfl rfl ?_
        refine pm_R_get pm_M66 (pc_q := 25) (v := .ref 17) rfl rfl T.e16 (by decide) (T.lt (by decide)) rfl rfl ?_
        refine pm_R_get pm_M66 (pc_q := 28) (v := .ref 20) rfl rfl T.e17 (by decide) (T.lt (by decide)) rfl rfl ?_
        refine pm_R_lo pm_M66 (pc_q := 29) rfl rfl rfl ?_
        obtain ⟨f15, e16, b17⟩ := T.C 20 (by decide) (by decide)
        obtain ⟨l18, hx19⟩ := cl_there1 T e10 e16 ez7 c12 B13 (by decide)
        have hk20 := b17 _ _ hx19
        refine pm_R_aald pm_M66 (pc_q := 30) (v := .ref l18) rfl e16 (by decide) (by decide) (by decide) (T.lt (by decide)) (sf_in B13 (by decide) (by decide)) (by rw [hx19]; rfl) rfl ?_
        refine pm_R_ret pm_M66 (r := some (.ref l18)) rfl rfl ?_
        show pm_R _ 117 11 [.ref 16, .int a0, .int a1, .null, pm_no, pm_no, pm_no, pm_no] [.ref l18] _ _
        refine pm_R_lo pm_M117 (pc_q := 13) (ls_q := [.ref 16, .int a0, .int a1, .null, .ref l18, pm_no, pm_no, pm_no]) (st_q := []) rfl rfl rfl ?_
        refine pm_R_lo pm_M117 (pc_q := 14) rfl rfl rfl ?_
        refine pm_R_br pm_M117 (pc_q := 22) rfl rfl ?_
        refine pm_R_op pm_M117 (pc_q := 23) (st_q := [.int (-1)]) rfl rfl rfl ?_
        exact pm_R_ret pm_M117 (r := some (.int (-1))) rfl rfl (K (-1) m h T (cl_F.refl (ck := ck) (A := [32, 38]) (n := 0) (s := 0) T.1) (rf_W.refl [] m) (sf_weak sf_kn1 (by decide) (by decide)))
      · skip
        refine pm_R_op pm_M66 (pc_q := 18) (st_q := [.null]) rfl rfl rfl ?_
        refine pm_R_br pm_M66 (pc_q := 30) rfl rfl ?_
        refine pm_R_ret pm_M66 (r := some (.null)) rfl rfl ?_
        show pm_R _ 117 11 [.ref 16, .int a0, .int a1, .null, pm_no, pm_no, pm_no, pm_no] [.null] _ _
        refine pm_R_lo pm_M117 (pc_q := 13) (ls_q := [.ref 16, .int a0, .int a1, .null, .null, pm_no, pm_no, pm_no]) (st_q := []) rfl rfl rfl ?_
        refine pm_R_lo pm_M117 (pc_q := 14) rfl rfl rfl ?_
        refine pm_R_br pm_M117 (pc_q := 22) rfl rfl ?_
        refine pm_R_op pm_M117 (pc_q := 23) (st_q := [.int (-1)]) rfl rfl rfl ?_
        exact pm_R_ret pm_M117 (r := some (.int (-1))) rfl rfl (K (-1) m h T (cl_F.refl (ck := ck) (A := [32, 38]) (n := 0) (s := 0) T.1) (rf_W.refl [] m) (sf_weak sf_kn1 (by decide) (by decide)))
  · have B21 : sf_B 0 2147483647 a0 := sf_leR (Int32.not_lt.mp c1) sf_k0 (sf_any a0)
    refine pm_R_lo pm_M62 (pc_q := 5) rfl rfl rfl ?_
    refine pm_R_lo pm_M62 (pc_q := 6) rfl rfl rfl ?_
    refine pm_R_get pm_M62 (pc_q := 9) (v := .ref 17) rfl rfl T.e16 (by decide) (T.lt (by decide)) rfl rfl ?_
    refine pm_R_get pm_M62 (pc_q := 12) (v := .ref 23) rfl rfl T.e17 (by decide) (T.lt (by decide)) rfl rfl ?_
    refine pm_R_op pm_M62 (pc_q := 13) (st_q := [.int 0, .ref 23, .int a0]) rfl rfl rfl ?_
    obtain ⟨f25, e26, b27⟩ := T.C 23 (by decide) (by decide)
    obtain ⟨z22, ez23⟩ : ∃ y, f25 (Int32.toNatClampNeg 0) = y := ⟨_, rfl⟩
    have B24 : sf_B 0 2 z22 := ez23 ▸ (b27 0)
    refine pm_R_iald pm_M62 (pc_q := 14) (v := z22) rfl e26 (T.lt (by decide)) rfl ez23 rfl ?_
    refine pm_R_icmp pm_M62 (t := 21) (pc_q := 17) rfl rfl rfl (fun c28 => ?_) (fun c28 => ?_)
    · have B29 : sf_B 0 1 a0 := sf_ltL c28 B21 B24
      have B30 : sf_B 1 2 z22 := sf_ltR c28 B21 B24
      refine pm_R_lo pm_M62 (pc_q := 22) rfl rfl rfl ?_
      refine pm_R_get pm_M62 (pc_q := 25) (v := .ref 17) rfl rfl T.e16 (by decide) (T.lt (by decide)) rfl rfl ?_
      refine pm_R_get pm_M62 (pc_q := 28) (v := .ref 19) rfl rfl T.e17 (by decide) (T.lt (by decide)) rfl rfl ?_
      refine pm_R_lo pm_M62 (pc_q := 29) rfl rfl rfl ?_
      obtain ⟨f31, e32, b33⟩ := T.C 19 (by decide) (by decide)
      obtain ⟨l34, hx35⟩ := cl_there0 T e26 e32 ez23 c28 B29 (by decide)
      have hk36 := b33 _ _ hx35
      refine pm_R_aald pm_M62 (pc_q := 30) (v := .ref l34) rfl e32 (by decide) (by decide) (by decide) (T.lt (by decide)) (sf_in B29 (by decide) (by decide)) (by rw [hx35]; rfl) rfl ?_
      refine pm_R_ret pm_M62 (r := some (.ref l34)) rfl rfl ?_
      show pm_R _ 117 5 [.ref 16, .int a0, .int a1, pm_no, pm_no, pm_no, pm_no, pm_no] [.ref l34] _ _
      refine pm_R_lo pm_M117 (pc_q := 6) (ls_q := [.ref 16, .int a0, .int a1, .ref l34, pm_no, pm_no, pm_no, pm_no]) (st_q := []) rfl rfl rfl ?_
      refine pm_R_lo pm_M117 (pc_q := 7) rfl rfl rfl ?_
      refine pm_R_lo pm_M117 (pc_q := 8) rfl rfl rfl ?_
      refine pm_R_cv pm_M117 (pc_q := 11) (a := 16) (ra := [.int a1]) (rest := []) (ls_q := [.ref 16, .int a1]) rfl rfl (Or.inl rfl) pm_M66 T.e16 rfl (by decide) (T.lt (by decide)) rfl rfl (Nat.le_of_ble_eq_true rfl) rfl rfl ?_
      refine pm_R_lo pm_M66 (pc_q := 1) rfl rfl rfl ?_
      refine pm_R_ifc pm_M66 (t := 17) (pc_q := 4) rfl rfl rfl (fun c37 => ?_) (fun c37 => ?_)
      · have B38 : sf_B (-2147483648) (-1) a1 := sf_ltL c37 (sf_any a1) sf_k0
        refine pm_R_op pm_M66 (pc_q := 18) (st_q := [.null]) rfl rfl rfl ?_
        refine pm_R_br pm_M66 (pc_q := 30) rfl rfl ?_
        refine pm_R_ret pm_M66 (r := some (.null)) rfl rfl ?_
        show pm_R _ 117 11 [.ref 16, .int a0, .int a1, .ref l34, pm_no, pm_no, pm_no, pm_no] [.null] _ _
        refine pm_R_lo pm_M117 (pc_q := 13) (ls_q := [.ref 16, .int a0, .int a1, .ref l34, .null, pm_no, pm_no, pm_no]) (st_q := []) rfl rfl rfl ?_
        refine pm_R_lo pm_M117 (pc_q := 14) rfl rfl rfl ?_
        refine pm_R_br pm_M117 (pc_q := 17) rfl rfl ?_
        refine pm_R_lo pm_M117 (pc_q := 19) rfl rfl rfl ?_
        refine pm_R_br pm_M117 (pc_q := 22) rfl rfl ?_
        refine pm_R_op pm_M117 (pc_q := 23) (st_q := [.int (-1)]) rfl rfl rfl ?_
        exact pm_R_ret pm_M117 (r := some (.int (-1))) rfl rfl (K (-1) m h T (cl_F.refl (ck := ck) (A := [32, 38]) (n := 0) (s := 0) T.1) (rf_W.refl [] m) (sf_weak sf_kn1 (by decide) (by decide)))
      · have B39 : sf_B 0 2147483647 a1 := sf_leR (Int32.not_lt.mp c37) sf_k0 (sf_any a1)
        refine pm_R_lo pm_M66 (pc_q := 5) rfl rfl rfl ?_
        refine pm_R_lo pm_M66 (pc_q := 6) rfl rfl rfl ?_
        refine pm_R_get pm_M66 (pc_q := 9) (v := .ref 17) rfl rfl T.e16 (by decide) (T.lt (by decide)) rfl rfl ?_
        refine pm_R_get pm_M66 (pc_q := 12) (v := .ref 23) rfl rfl T.e17 (by decide) (T.lt (by decide)) rfl rfl ?_
        refine pm_R_op pm_M66 (pc_q := 13) (st_q := [.int 1, .ref 23, .int a1]) rfl rfl rfl ?_
        obtain ⟨z40, ez41⟩ : ∃ y, f25 (Int32.toNatClampNeg 1) = y := ⟨_, rfl⟩
        have B42 : sf_B 0 3 z40 := ez41 ▸ (b27 1)
        refine pm_R_iald pm_M66 (pc_q := 14) (v := z40) rfl e26 (T.lt (by decide)) rfl ez41 rfl ?_
        refine pm_R_icmp pm_M66 (t := 21) (pc_q := 17) rfl rfl rfl (fun c43 => ?_) (fun c43 => ?_)
        · have B44 : sf_B 0 2 a1 := sf_ltL c43 B39 B42
          have B45 : sf_B 1 3 z40 := sf_ltR c43 B39 B42
          refine pm_R_lo pm_M66 (pc_q := 22) rfl rfl rfl ?_
          refine pm_R_get pm_M66 (pc_q := 25) (v := .ref 17) rfl rfl T.e16 (by decide) (T.lt (by decide)) rfl rfl ?_
          refine pm_R_get pm_M66 (pc_q := 28) (v := .ref 20) rfl rfl T.e17 (by decide) (T.lt (by decide)) rfl rfl ?_
          refine pm_R_lo pm_M66 (pc_q := 29) rfl rfl rfl ?_
          obtain ⟨f46, e47, b48⟩ := T.C 20 (by decide) (by decide)
          obtain ⟨l49, hx50⟩ := cl_there1 T e26 e47 ez41 c43 B44 (by decide)
          have hk51 := b48 _ _ hx50
          refine pm_R_aald pm_M66 (pc_q := 30) (v := .ref l49) rfl e47 (by decide) (by decide) (by decide) (T.lt (by decide)) (sf_in B44 (by decide) (by decide)) (by rw [hx50]; rfl) rfl ?_
          refine pm_R_ret pm_M66 (r := some (.ref l49)) rfl rfl ?_
          show pm_R _ 117 11 [.ref 16, .int a0, .int a1, .ref l34, pm_no, pm_no, pm_no, pm_no] [.ref l49] _ _
          refine pm_R_lo pm_M117 (pc_q := 13) (ls_q := [.ref 16, .int a0, .int a1, .ref l34, .ref l49, pm_no, pm_no, pm_no]) (st_q := []) rfl rfl rfl ?_
          refine pm_R_lo pm_M117 (pc_q := 14) rfl rfl rfl ?_
          refine pm_R_br pm_M117 (pc_q := 17) rfl rfl ?_
          refine pm_R_lo pm_M117 (pc_q := 19) rfl rfl rfl ?_
          refine pm_R_br pm_M117 (pc_q := 24) rfl rfl ?_
          refine pm_R_lo pm_M117 (pc_q := 25) rfl rfl rfl ?_
          refine pm_R_lo pm_M117 (pc_q := 26) rfl rfl rfl ?_
          refine pm_R_lo pm_M117 (pc_q := 28) rfl rfl rfl ?_
          refine pm_R_op pm_M117 (pc_q := 29) (st_q := [.int 0, .ref l49, .ref l34, .ref 16]) rfl rfl rfl ?_
          refine pm_R_cv pm_M117 (pc_q := 32) (a := 16) (ra := [.int 0, .ref l49, .ref l34]) (rest := []) (ls_q := [.ref 16, .ref l34, .ref l49, .int 0]) rfl rfl (Or.inl rfl) pm_M98 T.e16 rfl (by decide) (T.lt (by decide)) rfl rfl (Nat.le_of_ble_eq_true rfl) rfl rfl ?_
          refine cl_c98 (d := d + 0) G T hk36 hk51 (sf_weak sf_k0 (by decide) (by decide)) (fun r52 m54 h55 T56 F57 W58 => ?_)
          have F59 := (cl_F.refl (ck := ck) (A := [32, 38]) (n := 0) (s := 0) T.1).trans (N := 0) (S := 0) F57 (by decide) (by decide) (by decide)
          have W60 : rf_W [] m m54 := (rf_W.refl [] m).trans W58 (by decide)
          show pm_R _ 117 32 [.ref 16, .int a0, .int a1, .ref l34, .ref l49, pm_no, pm_no, pm_no] [.long r52] _ _
          refine pm_R_lo pm_M117 (pc_q := 34) (ls_q := [.ref 16, .int a0, .int a1, .ref l34, .ref l49, .long r52, pm_no, pm_no]) (st_q := []) rfl rfl rfl ?_
          refine pm_R_lo pm_M117 (pc_q := 36) rfl rfl rfl ?_
          refine pm_R_op pm_M117 (pc_q := 37) (st_q := [.long 0, .long r52]) rfl rfl rfl ?_
          refine sf_R_lcmp pm_M117 (pc_q := 38) rfl rfl (fun z61 e62 => ?_)
          refine pm_R_ifc pm_M117 (t := 43) (pc_q := 41) rfl rfl rfl (fun c63 => ?_) (fun c63 => ?_)
          · have k64 := sf_lneC e62 c63
            refine pm_R_op pm_M117 (pc_q := 44) (st_q := [.int 1]) rfl rfl rfl ?_
            refine pm_R_lo pm_M117 (pc_q := 46) (ls_q := [.ref 16, .int a0, .int a1, .ref l34, .ref l49, .long r52, pm_no, .int 1]) (st_q := []) rfl rfl rfl ?_
            have L_353 : ∀ (N : Nat) (h_353 : pm_H) (m_353 : Nat → Int32) (x7_353 : Int32), cl_T ck E m_353 o h_353 → cl_F ck [32, 38] 0 0 h h_353 → rf_W [] m54 m_353 → sf_B 1 10 x7_353 → (10 - x7_353.toInt).toNat = N → pm_R (d + 5) 117 46 [.ref 16, .int a0, .int a1, .ref l34, .ref l49, .long r52, pm_no, .int x7_353] [] h_353 Q := by
              intro N
              induction N using Nat.strongRecOn with
              | ind N ih_353 =>
                intro h_353 m_353 x7_353 T_353 F_353 W_353 Bx7_353 hN_353
                have W356 : rf_W [] m m_353 := W60.trans W_353 (by decide)
                refine pm_R_lo pm_M117 (pc_q := 48) rfl rfl rfl ?_
                refine pm_R_lo pm_M117 (pc_q := 49) rfl rfl rfl ?_
                obtain ⟨rc357, tc358, rs359, fv360, fw361, fr362, ft363, fn364, h365, h366, B367, eE368, eE369, eE370, eE371, eE372, eE373, b374, b375, b376⟩ := (G.2.1 l34 hk36).2.2.2.2.2
                have kq377 := G.2.1 l34 hk36
                refine pm_R_get pm_M117 (pc_q := 52) (v := .int rs359) rfl rfl (T_353.im hk36 (by decide) (by decide) eE368) (G.ge hk36 (by decide)) (T_353.al hk36 (by decide)) rfl rfl ?_
                refine pm_R_icmp pm_M117 (t := 81) (pc_q := 55) rfl rfl rfl (fun c378 => ?_) (fun c378 => ?_)
                · skip
                  refine pm_R_op pm_M117 (pc_q := 83) (st_q := [.int 9]) rfl rfl rfl ?_
                  exact pm_R_ret pm_M117 (r := some (.int 9)) rfl rfl (K 9 m_353 h_353 T_353 F_353 W356 (sf_weak sf_k9 (by decide) (by decide)))
                · have B379 : sf_B 1 9 x7_353 := sf_leL (Int32.not_lt.mp c378) Bx7_353 B367
                  have B380 : sf_B 1 9 rs359 := sf_leR (Int32.not_lt.mp c378) Bx7_353 B367
                  refine pm_R_lo pm_M117 (pc_q := 56) rfl rfl rfl ?_
                  refine pm_R_lo pm_M117 (pc_q := 57) rfl rfl rfl ?_
                  refine pm_R_lo pm_M117 (pc_q := 59) rfl rfl rfl ?_
                  refine pm_R_lo pm_M117 (pc_q := 61) rfl rfl rfl ?_
                  refine pm_R_cv pm_M117 (pc_q := 64) (a := 16) (ra := [.int x7_353, .ref l49, .ref l34]) (rest := []) (ls_q := [.ref 16, .ref l34, .ref l49, .int x7_353]) rfl rfl (Or.inl rfl) pm_M98 T_353.e16 rfl (by decide) (T_353.lt (by decide)) rfl rfl (Nat.le_of_ble_eq_true rfl) rfl rfl ?_
                  refine cl_c98 (d := d + 0) G T_353 hk36 hk51 (sf_weak B379 (by decide) (by decide)) (fun r381 m383 h384 T385 F386 W387 => ?_)
                  have F388 := F_353.trans (N := 0) (S := 0) F386 (by decide) (by decide) (by decide)
                  have W389 : rf_W [] m m383 := W356.trans W387 (by decide)
                  have W390 : rf_W [] m54 m383 := W_353.trans W387 (by decide)
                  show pm_R _ 117 64 [.ref 16, .int a0, .int a1, .ref l34, .ref l49, .long r52, pm_no, .int x7_353] [.long r381] _ _
                  refine pm_R_lo pm_M117 (pc_q := 66) rfl rfl rfl ?_
                  refine sf_R_lcmp pm_M117 (pc_q := 67) rfl rfl (fun z391 e392 => ?_)
                  refine pm_R_ifc pm_M117 (t := 75) (pc_q := 70) rfl rfl rfl (fun c393 => ?_) (fun c393 => ?_)
                  · have B394 : sf_B 0 0 z391 := sf_eqL c393 sf_k0
                    have k395 := lf_ge e392 B394 (by decide)
                    refine sf_R_iinc pm_M117 (pc_q := 78) (ls_q := fun z => [.ref 16, .int a0, .int a1, .ref l34, .ref l49, .long r52, pm_no, .int z]) rfl B379 rfl (by decide) (by decide) (by decide) (fun _ => rfl) rfl (fun z396 e397 B398 => ?_)
                    show pm_R _ 117 78 [.ref 16, .int a0, .int a1, .ref l34, .ref l49, .long r52, pm_no, .int z396] [] _ _
                    refine pm_R_br pm_M117 (pc_q := 46) rfl rfl ?_
                    exact ih_353 _ (sf_up hN_353 e397 B379 (by decide) (by decide)) h384 m383 z396 T385 F388 W390 (sf_weak B398 (by decide) (by decide)) rfl
                  · have k399 := sf_lneC e392 c393
                    refine pm_R_lo pm_M117 (pc_q := 72) rfl rfl rfl ?_
                    refine pm_R_op pm_M117 (pc_q := 73) (st_q := [.int 1, .int x7_353]) rfl rfl rfl ?_
                    refine sf_R_isub pm_M117 (pc_q := 74) rfl rfl B379 sf_k1 (by decide) (by decide) (fun z400 e401 B402 => ?_)
                    exact pm_R_ret pm_M117 (r := some (.int z400)) rfl (pm_ret_i _) (K z400 m383 h384 T385 F388 W389 (sf_weak B402 (by decide) (by decide)))
            exact L_353 _ h55 m54 1 T56 F59 (rf_W.refl _ _) (sf_weak sf_k1 (by decide) (by decide)) rfl
          · have B403 : sf_B 0 0 z61 := sf_eqL (Classical.not_not.mp c63) sf_k0
            have B404 : lf_B 0 0 r52 := lf_eqB e62 B403 (⟨by decide, by decide⟩ : lf_B 0 0 0)
            refine pm_R_op pm_M117 (pc_q := 42) (st_q := [.int (-1)]) rfl rfl rfl ?_
            exact pm_R_ret pm_M117 (r := some (.int (-1))) rfl rfl (K (-1) m54 h55 T56 F59 W60 (sf_weak sf_kn1 (by decide) (by decide)))
        · skip
          refine pm_R_op pm_M66 (pc_q := 18) (st_q := [.null]) rfl rfl rfl ?_
          refine pm_R_br pm_M66 (pc_q := 30) rfl rfl ?_
          refine pm_R_ret pm_M66 (r := some (.null)) rfl rfl ?_
          show pm_R _ 117 11 [.ref 16, .int a0, .int a1, .ref l34, pm_no, pm_no, pm_no, pm_no] [.null] _ _
          refine pm_R_lo pm_M117 (pc_q := 13) (ls_q := [.ref 16, .int a0, .int a1, .ref l34, .null, pm_no, pm_no, pm_no]) (st_q := []) rfl rfl rfl ?_
          refine pm_R_lo pm_M117 (pc_q := 14) rfl rfl rfl ?_
          refine pm_R_br pm_M117 (pc_q := 17) rfl rfl ?_
          refine pm_R_lo pm_M117 (pc_q := 19) rfl rfl rfl ?_
          refine pm_R_br pm_M117 (pc_q := 22) rfl rfl ?_
          refine pm_R_op pm_M117 (pc_q := 23) (st_q := [.int (-1)]) rfl rfl rfl ?_
          exact pm_R_ret pm_M117 (r := some (.int (-1))) rfl rfl (K (-1) m h T (cl_F.refl (ck := ck) (A := [32, 38]) (n := 0) (s := 0) T.1) (rf_W.refl [] m) (sf_weak sf_kn1 (by decide) (by decide)))
    · skip
      refine pm_R_op pm_M62 (pc_q := 18) (st_q := [.null]) rfl rfl rfl ?_
      refine pm_R_br pm_M62 (pc_q := 30) rfl rfl ?_
      refine pm_R_ret pm_M62 (r := some (.null)) rfl rfl ?_
      show pm_R _ 117 5 [.ref 16, .int a0, .int a1, pm_no, pm_no, pm_no, pm_no, pm_no] [.null] _ _
      refine pm_R_lo pm_M117 (pc_q := 6) (ls_q := [.ref 16, .int a0, .int a1, .null, pm_no, pm_no, pm_no, pm_no]) (st_q := []) rfl rfl rfl ?_
      refine pm_R_lo pm_M117 (pc_q := 7) rfl rfl rfl ?_
      refine pm_R_lo pm_M117 (pc_q := 8) rfl rfl rfl ?_
      refine pm_R_cv pm_M117 (pc_q := 11) (a := 16) (ra := [.int a1]) (rest := []) (ls_q := [.ref 16, .int a1]) rfl rfl (Or.inl rfl) pm_M66 T.e16 rfl (by decide) (T.lt (by decide)) rfl rfl (Nat.le_of_ble_eq_true rfl) rfl rfl ?_
      refine pm_R_lo pm_M66 (pc_q := 1) rfl rfl rfl ?_
      refine pm_R_ifc pm_M66 (t := 17) (pc_q := 4) rfl rfl rfl (fun c405 => ?_) (fun c405 => ?_)
      · have B406 : sf_B (-2147483648) (-1) a1 := sf_ltL c405 (sf_any a1) sf_k0
        refine pm_R_op pm_M66 (pc_q := 18) (st_q := [.null]) rfl rfl rfl ?_
        refine pm_R_br pm_M66 (pc_q := 30) rfl rfl ?_
        refine pm_R_ret pm_M66 (r := some (.null)) rfl rfl ?_
        show pm_R _ 117 11 [.ref 16, .int a0, .int a1, .null, pm_no, pm_no, pm_no, pm_no] [.null] _ _
        refine pm_R_lo pm_M117 (pc_q := 13) (ls_q := [.ref 16, .int a0, .int a1, .null, .null, pm_no, pm_no, pm_no]) (st_q := []) rfl rfl rfl ?_
        refine pm_R_lo pm_M117 (pc_q := 14) rfl rfl rfl ?_
        refine pm_R_br pm_M117 (pc_q := 22) rfl rfl ?_
        refine pm_R_op pm_M117 (pc_q := 23) (st_q := [.int (-1)]) rfl rfl rfl ?_
        exact pm_R_ret pm_M117 (r := some (.int (-1))) rfl rfl (K (-1) m h T (cl_F.refl (ck := ck) (A := [32, 38]) (n := 0) (s := 0) T.1) (rf_W.refl [] m) (sf_weak sf_kn1 (by decide) (by decide)))
      · have B407 : sf_B 0 2147483647 a1 := sf_leR (Int32.not_lt.mp c405) sf_k0 (sf_any a1)
        refine pm_R_lo pm_M66 (pc_q := 5) rfl rfl rfl ?_
        refine pm_R_lo pm_M66 (pc_q := 6) rfl rfl rfl ?_
        refine pm_R_get pm_M66 (pc_q := 9) (v := .ref 17) rfl rfl T.e16 (by decide) (T.lt (by decide)) rfl rfl ?_
        refine pm_R_get pm_M66 (pc_q := 12) (v := .ref 23) rfl rfl T.e17 (by decide) (T.lt (by decide)) rfl rfl ?_
        refine pm_R_op pm_M66 (pc_q := 13) (st_q := [.int 1, .ref 23, .int a1]) rfl rfl rfl ?_
        obtain ⟨z408, ez409⟩ : ∃ y, f25 (Int32.toNatClampNeg 1) = y := ⟨_, rfl⟩
        have B410 : sf_B 0 3 z408 := ez409 ▸ (b27 1)
        refine pm_R_iald pm_M66 (pc_q := 14) (v := z408) rfl e26 (T.lt (by decide)) rfl ez409 rfl ?_
        refine pm_R_icmp pm_M66 (t := 21) (pc_q := 17) rfl rfl rfl (fun c411 => ?_) (fun c411 => ?_)
        · have B412 : sf_B 0 2 a1 := sf_ltL c411 B407 B410
          have B413 : sf_B 1 3 z408 := sf_ltR c411 B407 B410
          refine pm_R_lo pm_M66 (pc_q := 22) rfl rfl rfl ?_
          refine pm_R_get pm_M66 (pc_q := 25) (v := .ref 17) rfl rfl T.e16 (by decide) (T.lt (by decide)) rfl rfl ?_
          refine pm_R_get pm_M66 (pc_q := 28) (v := .ref 20) rfl rfl T.e17 (by decide) (T.lt (by decide)) rfl rfl ?_
          refine pm_R_lo pm_M66 (pc_q := 29) rfl rfl rfl ?_
          obtain ⟨f414, e415, b416⟩ := T.C 20 (by decide) (by decide)
          obtain ⟨l417, hx418⟩ := cl_there1 T e26 e415 ez409 c411 B412 (by decide)
          have hk419 := b416 _ _ hx418
          refine pm_R_aald pm_M66 (pc_q := 30) (v := .ref l417) rfl e415 (by decide) (by decide) (by decide) (T.lt (by decide)) (sf_in B412 (by decide) (by decide)) (by rw [hx418]; rfl) rfl ?_
          refine pm_R_ret pm_M66 (r := some (.ref l417)) rfl rfl ?_
          show pm_R _ 117 11 [.ref 16, .int a0, .int a1, .null, pm_no, pm_no, pm_no, pm_no] [.ref l417] _ _
          refine pm_R_lo pm_M117 (pc_q := 13) (ls_q := [.ref 16, .int a0, .int a1, .null, .ref l417, pm_no, pm_no, pm_no]) (st_q := []) rfl rfl rfl ?_
          refine pm_R_lo pm_M117 (pc_q := 14) rfl rfl rfl ?_
          refine pm_R_br pm_M117 (pc_q := 22) rfl rfl ?_
          refine pm_R_op pm_M117 (pc_q := 23) (st_q := [.int (-1)]) rfl rfl rfl ?_
          exact pm_R_ret pm_M117 (r := some (.int (-1))) rfl rfl (K (-1) m h T (cl_F.refl (ck := ck) (A := [32, 38]) (n := 0) (s := 0) T.1) (rf_W.refl [] m) (sf_weak sf_kn1 (by decide) (by decide)))
        · skip
          refine pm_R_op pm_M66 (pc_q := 18) (st_q := [.null]) rfl rfl rfl ?_
          refine pm_R_br pm_M66 (pc_q := 30) rfl rfl ?_
          refine pm_R_ret pm_M66 (r := some (.null)) rfl rfl ?_
          show pm_R _ 117 11 [.ref 16, .int a0, .int a1, .null, pm_no, pm_no, pm_no, pm_no] [.null] _ _
          refine pm_R_lo pm_M117 (pc_q := 13) (ls_q := [.ref 16, .int a0, .int a1, .null, .null, pm_no, pm_no, pm_no]) (st_q := []) rfl rfl rfl ?_
          refine pm_R_lo pm_M117 (pc_q := 14) rfl rfl rfl ?_
          refine pm_R_br pm_M117 (pc_q := 22) rfl rfl ?_
          refine pm_R_op pm_M117 (pc_q := 23) (st_q := [.int (-1)]) rfl rfl rfl ?_
          exact pm_R_ret pm_M117 (r := some (.int (-1))) rfl rfl (K (-1) m h T (cl_F.refl (ck := ck) (A := [32, 38]) (n := 0) (s := 0) T.1) (rf_W.refl [] m) (sf_weak sf_kn1 (by decide) (by decide)))

set_option maxRecDepth 100000 in
set_option maxHeartbeats 4000000 in
/-- SilentTable.worn -/
theorem cl_c115 {d : Nat} {ck : cl_K} {E : Nat → pm_E} {m : Nat → Int32} {o : Nat → Option Nat} {h : pm_H} {Q : Option Value → pm_H → Prop} {a0 : Int32} {a1 : Int32} {a2 : Int32} (G : cl_G ck E) (T : cl_T ck E m o h)  (K : ∀ (r : Int64), Q (some (.long r)) h) : pm_R (d + 1) 115 0 [.ref 16, .int a0, .int a1, .int a2, pm_no, pm_no, pm_no, pm_no, pm_no] [] h Q := by
  refine pm_R_lo pm_M115 (pc_q := 1) rfl rfl rfl ?_
  refine pm_R_lo pm_M115 (pc_q := 2) rfl rfl rfl ?_
  refine pm_R_cv pm_M115 (pc_q := 5) (a := 16) (ra := [.int a0]) (rest := []) (ls_q := [.ref 16, .int a0]) rfl rfl (Or.inl rfl) pm_M62 T.e16 rfl (by decide) (T.lt (by decide)) rfl rfl (Nat.le_of_ble_eq_true rfl) rfl rfl ?_
  refine pm_R_lo pm_M62 (pc_q := 1) rfl rfl rfl ?_
  refine pm_R_ifc pm_M62 (t := 17) (pc_q := 4) rfl rfl rfl (fun c1 => ?_) (fun c1 => ?_)
  · have B2 : sf_B (-2147483648) (-1) a0 := sf_ltL c1 (sf_any a0) sf_k0
    refine pm_R_op pm_M62 (pc_q := 18) (st_q := [.null]) rfl rfl rfl ?_
    refine pm_R_br pm_M62 (pc_q := 30) rfl rfl ?_
    refine pm_R_ret pm_M62 (r := some (.null)) rfl rfl ?_
    show pm_R _ 115 5 [.ref 16, .int a0, .int a1, .int a2, pm_no, pm_no, pm_no, pm_no, pm_no] [.null] _ _
    refine pm_R_lo pm_M115 (pc_q := 7) (ls_q := [.ref 16, .int a0, .int a1, .int a2, .null, pm_no, pm_no, pm_no, pm_no]) (st_q := []) rfl rfl rfl ?_
    refine pm_R_lo pm_M115 (pc_q := 8) rfl rfl rfl ?_
    refine pm_R_lo pm_M115 (pc_q := 9) rfl rfl rfl ?_
    refine pm_R_cv pm_M115 (pc_q := 12) (a := 16) (ra := [.int a1]) (rest := []) (ls_q := [.ref 16, .int a1]) rfl rfl (Or.inl rfl) pm_M66 T.e16 rfl (by decide) (T.lt (by decide)) rfl rfl (Nat.le_of_ble_eq_true rfl) rfl rfl ?_
    refine pm_R_lo pm_M66 (pc_q := 1) rfl rfl rfl ?_
    refine pm_R_ifc pm_M66 (t := 17) (pc_q := 4) rfl rfl rfl (fun c3 => ?_) (fun c3 => ?_)
    · have B4 : sf_B (-2147483648) (-1) a1 := sf_ltL c3 (sf_any a1) sf_k0
      refine pm_R_op pm_M66 (pc_q := 18) (st_q := [.null]) rfl rfl rfl ?_
      refine pm_R_br pm_M66 (pc_q := 30) rfl rfl ?_
      refine pm_R_ret pm_M66 (r := some (.null)) rfl rfl ?_
      show pm_R _ 115 12 [.ref 16, .int a0, .int a1, .int a2, .null, pm_no, pm_no, pm_no, pm_no] [.null] _ _
      refine pm_R_lo pm_M115 (pc_q := 14) (ls_q := [.ref 16, .int a0, .int a1, .int a2, .null, .null, pm_no, pm_no, pm_no]) (st_q := []) rfl rfl rfl ?_
      refine pm_R_lo pm_M115 (pc_q := 16) rfl rfl rfl ?_
      refine pm_R_br pm_M115 (pc_q := 31) rfl rfl ?_
      refine pm_R_ldc2 pm_M115 (pc_q := 34) rfl rfl rfl ?_
      exact pm_R_ret pm_M115 (r := some (.long (-1))) rfl rfl (K (-1))
    · have B5 : sf_B 0 2147483647 a1 := sf_leR (Int32.not_lt.mp c3) sf_k0 (sf_any a1)
      refine pm_R_lo pm_M66 (pc_q := 5) rfl rfl rfl ?_
      refine pm_R_lo pm_M66 (pc_q := 6) rfl rfl rfl ?_
      refine pm_R_get pm_M66 (pc_q := 9) (v := .ref 17) rfl rfl T.e16 (by decide) (T.lt (by decide)) rfl rfl ?_
      refine pm_R_get pm_M66 (pc_q := 12) (v := .ref 23) rfl rfl T.e17 (by decide) (T.lt (by decide)) rfl rfl ?_
      refine pm_R_op pm_M66 (pc_q := 13) (st_q := [.int 1, .ref 23, .int a1]) rfl rfl rfl ?_
      obtain ⟨f9, e10, b11⟩ := T.C 23 (by decide) (by decide)
      obtain ⟨z6, ez7⟩ : ∃ y, f9 (Int32.toNatClampNeg 1) = y := ⟨_, rfl⟩
      have B8 : sf_B 0 3 z6 := ez7 ▸ (b11 1)
      refine pm_R_iald pm_M66 (pc_q := 14) (v := z6) rfl e10 (T.lt (by decide)) rfl ez7 rfl ?_
      refine pm_R_icmp pm_M66 (t := 21) (pc_q := 17) rfl rfl rfl (fun c12 => ?_) (fun c12 => ?_)
      · have B13 : sf_B 0 2 a1 := sf_ltL c12 B5 B8
        have B14 : sf_B 1 3 z6 := sf_ltR c12 B5 B8
        refine pm_R_lo pm_M66 (pc_q := 22) rfl rfl rfl ?_
        refine pm_R_get pm_M66 (pc_q := 25) (v := .ref 17) rfl rfl T.e16 (by decide) (T.lt (by decide)) rfl rfl ?_
        refine pm_R_get pm_M66 (pc_q := 28) (v := .ref 20) rfl rfl T.e17 (by decide) (T.lt (by decide)) rfl rfl ?_
        refine pm_R_lo pm_M66 (pc_q := 29) rfl rfl rfl ?_
        obtain ⟨f15, e16, b17⟩ := T.C 20 (by decide) (by decide)
        obtain ⟨l18, hx19⟩ := cl_there1 T e10 e16 ez7 c12 B13 (by decide)
        have hk20 := b17 _ _ hx19
        refine pm_R_aald pm_M66 (pc_q := 30) (v := .ref l18) rfl e16 (by decide) (by decide) (by decide) (T.lt (by decide)) (sf_in B13 (by decide) (by decide)) (by rw [hx19]; rfl) rfl ?_
        refine pm_R_ret pm_M66 (r := some (.ref l18)) rfl rfl ?_
        show pm_R _ 115 12 [.ref 16, .int a0, .int a1, .int a2, .null, pm_no, pm_no, pm_no, pm_no] [.ref l18] _ _
        refine pm_R_lo pm_M115 (pc_q := 14) (ls_q := [.ref 16, .int a0, .int a1, .int a2, .null, .ref l18, pm_no, pm_no, pm_no]) (st_q := []) rfl rfl rfl ?_
        refine pm_R_lo pm_M115 (pc_q := 16) rfl rfl rfl ?_
        refine pm_R_br pm_M115 (pc_q := 31) rfl rfl ?_
        refine pm_R_ldc2 pm_M115 (pc_q := 34) rfl rfl rfl ?_
        exact pm_R_ret pm_M115 (r := some (.long (-1))) rfl rfl (K (-1))
      · skip
        refine pm_R_op pm_M66 (pc_q := 18) (st_q := [.null]) rfl rfl rfl ?_
        refine pm_R_br pm_M66 (pc_q := 30) rfl rfl ?_
        refine pm_R_ret pm_M66 (r := some (.null)) rfl rfl ?_
        show pm_R _ 115 12 [.ref 16, .int a0, .int a1, .int a2, .null, pm_no, pm_no, pm_no, pm_no] [.null] _ _
        refine pm_R_lo pm_M115 (pc_q := 14) (ls_q := [.ref 16, .int a0, .int a1, .int a2, .null, .null, pm_no, pm_no, pm_no]) (st_q := []) rfl rfl rfl ?_
        refine pm_R_lo pm_M115 (pc_q := 16) rfl rfl rfl ?_
        refine pm_R_br pm_M115 (pc_q := 31) rfl rfl ?_
        refine pm_R_ldc2 pm_M115 (pc_q := 34) rfl rfl rfl ?_
        exact pm_R_ret pm_M115 (r := some (.long (-1))) rfl rfl (K (-1))
  · have B21 : sf_B 0 2147483647 a0 := sf_leR (Int32.not_lt.mp c1) sf_k0 (sf_any a0)
    refine pm_R_lo pm_M62 (pc_q := 5) rfl rfl rfl ?_
    refine pm_R_lo pm_M62 (pc_q := 6) rfl rfl rfl ?_
    refine pm_R_get pm_M62 (pc_q := 9) (v := .ref 17) rfl rfl T.e16 (by decide) (T.lt (by decide)) rfl rfl ?_
    refine pm_R_get pm_M62 (pc_q := 12) (v := .ref 23) rfl rfl T.e17 (by decide) (T.lt (by decide)) rfl rfl ?_
    refine pm_R_op pm_M62 (pc_q := 13) (st_q := [.int 0, .ref 23, .int a0]) rfl rfl rfl ?_
    obtain ⟨f25, e26, b27⟩ := T.C 23 (by decide) (by decide)
    obtain ⟨z22, ez23⟩ : ∃ y, f25 (Int32.toNatClampNeg 0) = y := ⟨_, rfl⟩
    have B24 : sf_B 0 2 z22 := ez23 ▸ (b27 0)
    refine pm_R_iald pm_M62 (pc_q := 14) (v := z22) rfl e26 (T.lt (by decide)) rfl ez23 rfl ?_
    refine pm_R_icmp pm_M62 (t := 21) (pc_q := 17) rfl rfl rfl (fun c28 => ?_) (fun c28 => ?_)
    · have B29 : sf_B 0 1 a0 := sf_ltL c28 B21 B24
      have B30 : sf_B 1 2 z22 := sf_ltR c28 B21 B24
      refine pm_R_lo pm_M62 (pc_q := 22) rfl rfl rfl ?_
      refine pm_R_get pm_M62 (pc_q := 25) (v := .ref 17) rfl rfl T.e16 (by decide) (T.lt (by decide)) rfl rfl ?_
      refine pm_R_get pm_M62 (pc_q := 28) (v := .ref 19) rfl rfl T.e17 (by decide) (T.lt (by decide)) rfl rfl ?_
      refine pm_R_lo pm_M62 (pc_q := 29) rfl rfl rfl ?_
      obtain ⟨f31, e32, b33⟩ := T.C 19 (by decide) (by decide)
      obtain ⟨l34, hx35⟩ := cl_there0 T e26 e32 ez23 c28 B29 (by decide)
      have hk36 := b33 _ _ hx35
      refine pm_R_aald pm_M62 (pc_q := 30) (v := .ref l34) rfl e32 (by decide) (by decide) (by decide) (T.lt (by decide)) (sf_in B29 (by decide) (by decide)) (by rw [hx35]; rfl) rfl ?_
      refine pm_R_ret pm_M62 (r := some (.ref l34)) rfl rfl ?_
      show pm_R _ 115 5 [.ref 16, .int a0, .int a1, .int a2, pm_no, pm_no, pm_no, pm_no, pm_no] [.ref l34] _ _
      refine pm_R_lo pm_M115 (pc_q := 7) (ls_q := [.ref 16, .int a0, .int a1, .int a2, .ref l34, pm_no, pm_no, pm_no, pm_no]) (st_q := []) rfl rfl rfl ?_
      refine pm_R_lo pm_M115 (pc_q := 8) rfl rfl rfl ?_
      refine pm_R_lo pm_M115 (pc_q := 9) rfl rfl rfl ?_
      refine pm_R_cv pm_M115 (pc_q := 12) (a := 16) (ra := [.int a1]) (rest := []) (ls_q := [.ref 16, .int a1]) rfl rfl (Or.inl rfl) pm_M66 T.e16 rfl (by decide) (T.lt (by decide)) rfl rfl (Nat.le_of_ble_eq_true rfl) rfl rfl ?_
      refine pm_R_lo pm_M66 (pc_q := 1) rfl rfl rfl ?_
      refine pm_R_ifc pm_M66 (t := 17) (pc_q := 4) rfl rfl rfl (fun c37 => ?_) (fun c37 => ?_)
      · have B38 : sf_B (-2147483648) (-1) a1 := sf_ltL c37 (sf_any a1) sf_k0
        refine pm_R_op pm_M66 (pc_q := 18) (st_q := [.null]) rfl rfl rfl ?_
        refine pm_R_br pm_M66 (pc_q := 30) rfl rfl ?_
        refine pm_R_ret pm_M66 (r := some (.null)) rfl rfl ?_
        show pm_R _ 115 12 [.ref 16, .int a0, .int a1, .int a2, .ref l34, pm_no, pm_no, pm_no, pm_no] [.null] _ _
        refine pm_R_lo pm_M115 (pc_q := 14) (ls_q := [.ref 16, .int a0, .int a1, .int a2, .ref l34, .null, pm_no, pm_no, pm_no]) (st_q := []) rfl rfl rfl ?_
        refine pm_R_lo pm_M115 (pc_q := 16) rfl rfl rfl ?_
        refine pm_R_br pm_M115 (pc_q := 19) rfl rfl ?_
        refine pm_R_lo pm_M115 (pc_q := 21) rfl rfl rfl ?_
        refine pm_R_br pm_M115 (pc_q := 31) rfl rfl ?_
        refine pm_R_ldc2 pm_M115 (pc_q := 34) rfl rfl rfl ?_
        exact pm_R_ret pm_M115 (r := some (.long (-1))) rfl rfl (K (-1))
      · have B39 : sf_B 0 2147483647 a1 := sf_leR (Int32.not_lt.mp c37) sf_k0 (sf_any a1)
        refine pm_R_lo pm_M66 (pc_q := 5) rfl rfl rfl ?_
        refine pm_R_lo pm_M66 (pc_q := 6) rfl rfl rfl ?_
        refine pm_R_get pm_M66 (pc_q := 9) (v := .ref 17) rfl rfl T.e16 (by decide) (T.lt (by decide)) rfl rfl ?_
        refine pm_R_get pm_M66 (pc_q := 12) (v := .ref 23) rfl rfl T.e17 (by decide) (T.lt (by decide)) rfl rfl ?_
        refine pm_R_op pm_M66 (pc_q := 13) (st_q := [.int 1, .ref 23, .int a1]) rfl rfl rfl ?_
        obtain ⟨z40, ez41⟩ : ∃ y, f25 (Int32.toNatClampNeg 1) = y := ⟨_, rfl⟩
        have B42 : sf_B 0 3 z40 := ez41 ▸ (b27 1)
        refine pm_R_iald pm_M66 (pc_q := 14) (v := z40) rfl e26 (T.lt (by decide)) rfl ez41 rfl ?_
        refine pm_R_icmp pm_M66 (t := 21) (pc_q := 17) rfl rfl rfl (fun c43 => ?_) (fun c43 => ?_)
        · have B44 : sf_B 0 2 a1 := sf_ltL c43 B39 B42
          have B45 : sf_B 1 3 z40 := sf_ltR c43 B39 B42
          refine pm_R_lo pm_M66 (pc_q := 22) rfl rfl rfl ?_
          refine pm_R_get pm_M66 (pc_q := 25) (v := .ref 17) rfl rfl T.e16 (by decide) (T.lt (by decide)) rfl rfl ?_
          refine pm_R_get pm_M66 (pc_q := 28) (v := .ref 20) rfl rfl T.e17 (by decide) (T.lt (by decide)) rfl rfl ?_
          refine pm_R_lo pm_M66 (pc_q := 29) rfl rfl rfl ?_
          obtain ⟨f46, e47, b48⟩ := T.C 20 (by decide) (by decide)
          obtain ⟨l49, hx50⟩ := cl_there1 T e26 e47 ez41 c43 B44 (by decide)
          have hk51 := b48 _ _ hx50
          refine pm_R_aald pm_M66 (pc_q := 30) (v := .ref l49) rfl e47 (by decide) (by decide) (by decide) (T.lt (by decide)) (sf_in B44 (by decide) (by decide)) (by rw [hx50]; rfl) rfl ?_
          refine pm_R_ret pm_M66 (r := some (.ref l49)) rfl rfl ?_
          show pm_R _ 115 12 [.ref 16, .int a0, .int a1, .int a2, .ref l34, pm_no, pm_no, pm_no, pm_no] [.ref l49] _ _
          refine pm_R_lo pm_M115 (pc_q := 14) (ls_q := [.ref 16, .int a0, .int a1, .int a2, .ref l34, .ref l49, pm_no, pm_no, pm_no]) (st_q := []) rfl rfl rfl ?_
          refine pm_R_lo pm_M115 (pc_q := 16) rfl rfl rfl ?_
          refine pm_R_br pm_M115 (pc_q := 19) rfl rfl ?_
          refine pm_R_lo pm_M115 (pc_q := 21) rfl rfl rfl ?_
          refine pm_R_br pm_M115 (pc_q := 24) rfl rfl ?_
          refine pm_R_lo pm_M115 (pc_q := 25) rfl rfl rfl ?_
          refine pm_R_cs pm_M115 (pc_q := 28) (ra := [.int a2]) (rest := []) (ls_q := [.int a2]) rfl rfl (Or.inl rfl) pm_M110 rfl rfl (Nat.le_of_ble_eq_true rfl) rfl rfl ?_
          refine pm_R_lo pm_M110 (pc_q := 1) rfl rfl rfl ?_
          refine pm_R_ifc pm_M110 (t := 14) (pc_q := 4) rfl rfl rfl (fun c52 => ?_) (fun c52 => ?_)
          · have B53 : sf_B (-2147483648) (-1) a2 := sf_ltL c52 (sf_any a2) sf_k0
            refine pm_R_op pm_M110 (pc_q := 15) (st_q := [.int 0]) rfl rfl rfl ?_
            refine pm_R_ret pm_M110 (r := some (.int 0)) rfl rfl ?_
            show pm_R _ 115 28 [.ref 16, .int a0, .int a1, .int a2, .ref l34, .ref l49, pm_no, pm_no, pm_no] [.int 0] _ _
            refine pm_R_br pm_M115 (pc_q := 31) (st_q := []) rfl rfl ?_
            refine pm_R_ldc2 pm_M115 (pc_q := 34) rfl rfl rfl ?_
            exact pm_R_ret pm_M115 (r := some (.long (-1))) rfl rfl (K (-1))
          · have B54 : sf_B 0 2147483647 a2 := sf_leR (Int32.not_lt.mp c52) sf_k0 (sf_any a2)
            refine pm_R_lo pm_M110 (pc_q := 5) rfl rfl rfl ?_
            refine pm_R_op pm_M110 (pc_q := 7) (st_q := [.int 9, .int a2]) rfl rfl rfl ?_
            refine pm_R_icmp pm_M110 (t := 14) (pc_q := 10) rfl rfl rfl (fun c55 => ?_) (fun c55 => ?_)
            · have B56 : sf_B 10 2147483647 a2 := sf_ltR c55 sf_k9 B54
              refine pm_R_op pm_M110 (pc_q := 15) (st_q := [.int 0]) rfl rfl rfl ?_
              refine pm_R_ret pm_M110 (r := some (.int 0)) rfl rfl ?_
              show pm_R _ 115 28 [.ref 16, .int a0, .int a1, .int a2, .ref l34, .ref l49, pm_no, pm_no, pm_no] [.int 0] _ _
              refine pm_R_br pm_M115 (pc_q := 31) (st_q := []) rfl rfl ?_
              refine pm_R_ldc2 pm_M115 (pc_q := 34) rfl rfl rfl ?_
              exact pm_R_ret pm_M115 (r := some (.long (-1))) rfl rfl (K (-1))
            · have B57 : sf_B 0 9 a2 := sf_leL (Int32.not_lt.mp c55) B54 sf_k9
              refine pm_R_op pm_M110 (pc_q := 11) (st_q := [.int 1]) rfl rfl rfl ?_
              refine pm_R_br pm_M110 (pc_q := 15) rfl rfl ?_
              refine pm_R_ret pm_M110 (r := some (.int 1)) rfl rfl ?_
              show pm_R _ 115 28 [.ref 16, .int a0, .int a1, .int a2, .ref l34, .ref l49, pm_no, pm_no, pm_no] [.int 1] _ _
              refine pm_R_br pm_M115 (pc_q := 35) (st_q := []) rfl rfl ?_
              refine pm_R_op pm_M115 (pc_q := 36) (st_q := [.long 1]) rfl rfl rfl ?_
              refine pm_R_lo pm_M115 (pc_q := 38) (ls_q := [.ref 16, .int a0, .int a1, .int a2, .ref l34, .ref l49, .long 1, pm_no, pm_no]) (st_q := []) rfl rfl rfl ?_
              refine pm_R_op pm_M115 (pc_q := 39) (st_q := [.int 0]) rfl rfl rfl ?_
              refine pm_R_lo pm_M115 (pc_q := 41) (ls_q := [.ref 16, .int a0, .int a1, .int a2, .ref l34, .ref l49, .long 1, pm_no, .int 0]) (st_q := []) rfl rfl rfl ?_
              have L_704 : ∀ (N : Nat) (x8_704 : Int32) (y6_704 : Int64), sf_B 0 12 x8_704 → (12 - x8_704.toInt).toNat = N → pm_R (d + 1) 115 41 [.ref 16, .int a0, .int a1, .int a2, .ref l34, .ref l49, .long y6_704, pm_no, .int x8_704] [] h Q := by
                intro N
                induction N using Nat.strongRecOn with
                | ind N ih_704 =>
                  intro x8_704 y6_704 Bx8_704 hN_704
                  refine pm_R_lo pm_M115 (pc_q := 43) rfl rfl rfl ?_
                  refine pm_R_lo pm_M115 (pc_q := 45) rfl rfl rfl ?_
                  obtain ⟨n705, f706, h707, h708, eE709, eE710, b711⟩ := (G.2.2.1 l49 hk51).2
                  have kq712 := (G.2.2.1 l49 hk51).1
                  refine pm_R_get pm_M115 (pc_q := 48) (v := .int (Int32.ofNat n705)) rfl rfl (T.im hk51 (by decide) (by decide) eE709) (G.ge hk51 (by decide)) (T.al hk51 (by decide)) rfl rfl ?_
                  refine pm_R_icmp pm_M115 (t := 85) (pc_q := 51) rfl rfl rfl (fun c713 => ?_) (fun c713 => ?_)
                  · have B714 : sf_B 1 12 x8_704 := sf_leR c713 (sf_ofB1 h708 h707 (by decide)) Bx8_704
                    refine pm_R_lo pm_M115 (pc_q := 87) rfl rfl rfl ?_
                    exact pm_R_ret pm_M115 (r := some (.long y6_704)) rfl rfl (K y6_704)
                  · have B715 : sf_B 0 11 x8_704 := sf_ltL (Int32.not_le.mp c713) Bx8_704 (sf_ofB1 h708 h707 (by decide))
                    refine pm_R_lo pm_M115 (pc_q := 53) rfl rfl rfl ?_
                    refine pm_R_lo pm_M115 (pc_q := 55) rfl rfl rfl ?_
                    obtain ⟨rc716, tc717, rs718, fv719, fw720, fr721, ft722, fn723, h724, h725, B726, eE727, eE728, eE729, eE730, eE731, eE732, b733, b734, b735⟩ := (G.2.1 l34 hk36).2.2.2.2.2
                    have kq736 := G.2.1 l34 hk36
                    refine pm_R_get pm_M115 (pc_q := 58) (v := .ref (l34 + 2)) rfl rfl (T.im hk36 (by decide) (by decide) eE727) (G.ge hk36 (by decide)) (T.al hk36 (by decide)) rfl rfl ?_
                    refine pm_R_lo pm_M115 (pc_q := 59) rfl rfl rfl ?_
                    refine pm_R_op pm_M115 (pc_q := 61) (st_q := [.int 10, .int a2, .ref (l34 + 2), .long y6_704]) rfl rfl rfl ?_
                    refine sf_R_imul pm_M115 (pc_q := 62) rfl rfl B57 sf_k10 (by decide) (by decide) (by decide) (fun z737 e738 B739 => ?_)
                    refine pm_R_lo pm_M115 (pc_q := 64) rfl rfl rfl ?_
                    refine pm_R_get pm_M115 (pc_q := 67) (v := .ref (l49 + 1)) rfl rfl (T.im hk51 (by decide) (by decide) eE709) (G.ge hk51 (by decide)) (T.al hk51 (by decide)) rfl rfl ?_
                    refine pm_R_lo pm_M115 (pc_q := 69) rfl rfl rfl ?_
                    have q743 := cl_in1 (n := n705) (Nat.le_trans h708 (by decide)) (Int32.not_le.mp c713) B715 (by decide)
                    obtain ⟨z740, ez741⟩ : ∃ y, f706 (Int32.toNatClampNeg x8_704) = y := ⟨_, rfl⟩
                    have B742 : sf_B 0 9 z740 := ez741 ▸ b711 _
                    refine pm_R_iald pm_M115 (pc_q := 70) (v := z740) rfl (T.im kq712 (by decide) (by decide) eE710) (T.al kq712 (by decide)) q743.1 ez741 rfl ?_
                    refine sf_R_iadd pm_M115 (pc_q := 71) rfl rfl B739 B742 (by decide) (by decide) (fun z744 e745 B746 => ?_)
                    obtain ⟨z747, ez748⟩ : ∃ y, fw720 (Int32.toNatClampNeg z744) = y := ⟨_, rfl⟩
                    refine pm_R_iald pm_M115 (pc_q := 72) (v := z747) rfl (T.im kq736.2.1 (by decide) (by decide) eE729) (T.al kq736.2.1 (by decide)) (sf_in B746 (by decide) (by decide)) ez748 rfl ?_
                    refine pm_R_cs pm_M115 (pc_q := 75) (ra := [.int z747]) (rest := [.long y6_704]) (ls_q := [.int z747]) rfl rfl (Or.inl rfl) pm_M116 rfl rfl (Nat.le_of_ble_eq_true rfl) rfl rfl ?_
                    refine pm_R_lo pm_M116 (pc_q := 1) rfl rfl rfl ?_
                    refine pm_R_lo pm_M116 (pc_q := 2) rfl rfl rfl ?_
                    refine pm_R_op pm_M116 (pc_q := 3) (st_q := [.int 1, .int z747, .int z747]) rfl rfl rfl ?_
                    refine sf_R_iany pm_M116 (pc_q := 4) (st := [.int z747]) rfl rfl rfl (fun z753 => ?_)
                    refine pm_R_ldcw pm_M116 (pc_q := 7) rfl rfl rfl ?_
                    refine sf_R_iandE pm_M116 (pc_q := 8) rfl rfl sf_k1431655765 (by decide) (fun z754 e755 B756 => ?_)
                    refine sf_R_iany pm_M116 (pc_q := 9) (st := []) rfl rfl rfl (fun z760 => ?_)
                    refine pm_R_lo pm_M116 (pc_q := 10) (ls_q := [.int z760]) (st_q := []) rfl rfl rfl ?_
                    refine pm_R_lo pm_M116 (pc_q := 11) rfl rfl rfl ?_
                    refine pm_R_ldcw pm_M116 (pc_q := 14) rfl rfl rfl ?_
                    refine sf_R_iandE pm_M116 (pc_q := 15) rfl rfl sf_k858993459 (by decide) (fun z761 e762 B763 => ?_)
                    refine pm_R_lo pm_M116 (pc_q := 16) rfl rfl rfl ?_
                    refine pm_R_op pm_M116 (pc_q := 17) (st_q := [.int 2, .int z760, .int z761]) rfl rfl rfl ?_
                    refine sf_R_iany pm_M116 (pc_q := 18) (st := [.int z761]) rfl rfl rfl (fun z767 => ?_)
                    refine pm_R_ldcw pm_M116 (pc_q := 21) rfl rfl rfl ?_
                    refine sf_R_iandE pm_M116 (pc_q := 22) rfl rfl sf_k858993459 (by decide) (fun z768 e769 B770 => ?_)
                    refine sf_R_iadd pm_M116 (pc_q := 23) rfl rfl B763 B770 (by decide) (by decide) (fun z771 e772 B773 => ?_)
                    refine pm_R_lo pm_M116 (pc_q := 24) (ls_q := [.int z771]) (st_q := []) rfl rfl rfl ?_
                    refine pm_R_lo pm_M116 (pc_q := 25) rfl rfl rfl ?_
                    refine pm_R_lo pm_M116 (pc_q := 26) rfl rfl rfl ?_
                    refine pm_R_op pm_M116 (pc_q := 27) (st_q := [.int 4, .int z771, .int z771]) rfl rfl rfl ?_
                    refine sf_R_iany pm_M116 (pc_q := 28) (st := [.int z771]) rfl rfl rfl (fun z777 => ?_)
                    refine sf_R_iany pm_M116 (pc_q := 29) (st := []) rfl rfl rfl (fun z781 => ?_)
                    refine pm_R_ldcw pm_M116 (pc_q := 32) rfl rfl rfl ?_
                    refine sf_R_iandE pm_M116 (pc_q := 33) rfl rfl sf_k252645135 (by decide) (fun z782 e783 B784 => ?_)
                    refine pm_R_lo pm_M116 (pc_q := 34) (ls_q := [.int z782]) (st_q := []) rfl rfl rfl ?_
                    refine pm_R_lo pm_M116 (pc_q := 35) rfl rfl rfl ?_
                    refine pm_R_lo pm_M116 (pc_q := 36) rfl rfl rfl ?_
                    refine pm_R_op pm_M116 (pc_q := 38) (st_q := [.int 8, .int z782, .int z782]) rfl rfl rfl ?_
                    refine sf_R_iany pm_M116 (pc_q := 39) (st := [.int z782]) rfl rfl rfl (fun z788 => ?_)
                    refine sf_R_iany pm_M116 (pc_q := 40) (st := []) rfl rfl rfl (fun z792 => ?_)
                    refine pm_R_lo pm_M116 (pc_q := 41) (ls_q := [.int z792]) (st_q := []) rfl rfl rfl ?_
                    refine pm_R_lo pm_M116 (pc_q := 42) rfl rfl rfl ?_
                    refine pm_R_lo pm_M116 (pc_q := 43) rfl rfl rfl ?_
                    refine pm_R_op pm_M116 (pc_q := 45) (st_q := [.int 16, .int z792, .int z792]) rfl rfl rfl ?_
                    refine sf_R_iany pm_M116 (pc_q := 46) (st := [.int z792]) rfl rfl rfl (fun z796 => ?_)
                    refine sf_R_iany pm_M116 (pc_q := 47) (st := []) rfl rfl rfl (fun z800 => ?_)
                    refine pm_R_lo pm_M116 (pc_q := 48) (ls_q := [.int z800]) (st_q := []) rfl rfl rfl ?_
                    refine pm_R_lo pm_M116 (pc_q := 49) rfl rfl rfl ?_
                    refine pm_R_op pm_M116 (pc_q := 51) (st_q := [.int 63, .int z800]) rfl rfl rfl ?_
                    refine sf_R_iandE pm_M116 (pc_q := 52) rfl rfl sf_k63 (by decide) (fun z801 e802 B803 => ?_)
                    refine pm_R_ret pm_M116 (r := some (.int z801)) rfl (pm_ret_i _) ?_
                    show pm_R _ 115 75 [.ref 16, .int a0, .int a1, .int a2, .ref l34, .ref l49, .long y6_704, pm_no, .int x8_704] [.int z801, .long y6_704] _ _
                    refine sf_R_i2l pm_M115 (pc_q := 76) rfl rfl B803 (fun z804 e805 B806 => ?_)
                    refine sf_R_lany pm_M115 (pc_q := 77) (st := []) rfl rfl rfl (fun z807 => ?_)
                    refine pm_R_lo pm_M115 (pc_q := 79) (ls_q := [.ref 16, .int a0, .int a1, .int a2, .ref l34, .ref l49, .long z807, pm_no, .int x8_704]) (st_q := []) rfl rfl rfl ?_
                    refine sf_R_iinc pm_M115 (pc_q := 82) (ls_q := fun z => [.ref 16, .int a0, .int a1, .int a2, .ref l34, .ref l49, .long z807, pm_no, .int z]) rfl B715 rfl (by decide) (by decide) (by decide) (fun _ => rfl) rfl (fun z808 e809 B810 => ?_)
                    show pm_R _ 115 82 [.ref 16, .int a0, .int a1, .int a2, .ref l34, .ref l49, .long z807, pm_no, .int z808] [] _ _
                    refine pm_R_br pm_M115 (pc_q := 41) rfl rfl ?_
                    exact ih_704 _ (sf_up hN_704 e809 B715 (by decide) (by decide)) z808 z807 (sf_weak B810 (by decide) (by decide)) rfl
              exact L_704 _ 0 1 (sf_weak sf_k0 (by decide) (by decide)) rfl
        · skip
          refine pm_R_op pm_M66 (pc_q := 18) (st_q := [.null]) rfl rfl rfl ?_
          refine pm_R_br pm_M66 (pc_q := 30) rfl rfl ?_
          refine pm_R_ret pm_M66 (r := some (.null)) rfl rfl ?_
          show pm_R _ 115 12 [.ref 16, .int a0, .int a1, .int a2, .ref l34, pm_no, pm_no, pm_no, pm_no] [.null] _ _
          refine pm_R_lo pm_M115 (pc_q := 14) (ls_q := [.ref 16, .int a0, .int a1, .int a2, .ref l34, .null, pm_no, pm_no, pm_no]) (st_q := []) rfl rfl rfl ?_
          refine pm_R_lo pm_M115 (pc_q := 16) rfl rfl rfl ?_
          refine pm_R_br pm_M115 (pc_q := 19) rfl rfl ?_
          refine pm_R_lo pm_M115 (pc_q := 21) rfl rfl rfl ?_
          refine pm_R_br pm_M115 (pc_q := 31) rfl rfl ?_
          refine pm_R_ldc2 pm_M115 (pc_q := 34) rfl rfl rfl ?_
          exact pm_R_ret pm_M115 (r := some (.long (-1))) rfl rfl (K (-1))
    · skip
      refine pm_R_op pm_M62 (pc_q := 18) (st_q := [.null]) rfl rfl rfl ?_
      refine pm_R_br pm_M62 (pc_q := 30) rfl rfl ?_
      refine pm_R_ret pm_M62 (r := some (.null)) rfl rfl ?_
      show pm_R _ 115 5 [.ref 16, .int a0, .int a1, .int a2, pm_no, pm_no, pm_no, pm_no, pm_no] [.null] _ _
      refine pm_R_lo pm_M115 (pc_q := 7) (ls_q := [.ref 16, .int a0, .int a1, .int a2, .null, pm_no, pm_no, pm_no, pm_no]) (st_q := []) rfl rfl rfl ?_
      refine pm_R_lo pm_M115 (pc_q := 8) rfl rfl rfl ?_
      refine pm_R_lo pm_M115 (pc_q := 9) rfl rfl rfl ?_
      refine pm_R_cv pm_M115 (pc_q := 12) (a := 16) (ra := [.int a1]) (rest := []) (ls_q := [.ref 16, .int a1]) rfl rfl (Or.inl rfl) pm_M66 T.e16 rfl (by decide) (T.lt (by decide)) rfl rfl (Nat.le_of_ble_eq_true rfl) rfl rfl ?_
      refine pm_R_lo pm_M66 (pc_q := 1) rfl rfl rfl ?_
      refine pm_R_ifc pm_M66 (t := 17) (pc_q := 4) rfl rfl rfl (fun c811 => ?_) (fun c811 => ?_)
      · have B812 : sf_B (-2147483648) (-1) a1 := sf_ltL c811 (sf_any a1) sf_k0
        refine pm_R_op pm_M66 (pc_q := 18) (st_q := [.null]) rfl rfl rfl ?_
        refine pm_R_br pm_M66 (pc_q := 30) rfl rfl ?_
        refine pm_R_ret pm_M66 (r := some (.null)) rfl rfl ?_
        show pm_R _ 115 12 [.ref 16, .int a0, .int a1, .int a2, .null, pm_no, pm_no, pm_no, pm_no] [.null] _ _
        refine pm_R_lo pm_M115 (pc_q := 14) (ls_q := [.ref 16, .int a0, .int a1, .int a2, .null, .null, pm_no, pm_no, pm_no]) (st_q := []) rfl rfl rfl ?_
        refine pm_R_lo pm_M115 (pc_q := 16) rfl rfl rfl ?_
        refine pm_R_br pm_M115 (pc_q := 31) rfl rfl ?_
        refine pm_R_ldc2 pm_M115 (pc_q := 34) rfl rfl rfl ?_
        exact pm_R_ret pm_M115 (r := some (.long (-1))) rfl rfl (K (-1))
      · have B813 : sf_B 0 2147483647 a1 := sf_leR (Int32.not_lt.mp c811) sf_k0 (sf_any a1)
        refine pm_R_lo pm_M66 (pc_q := 5) rfl rfl rfl ?_
        refine pm_R_lo pm_M66 (pc_q := 6) rfl rfl rfl ?_
        refine pm_R_get pm_M66 (pc_q := 9) (v := .ref 17) rfl rfl T.e16 (by decide) (T.lt (by decide)) rfl rfl ?_
        refine pm_R_get pm_M66 (pc_q := 12) (v := .ref 23) rfl rfl T.e17 (by decide) (T.lt (by decide)) rfl rfl ?_
        refine pm_R_op pm_M66 (pc_q := 13) (st_q := [.int 1, .ref 23, .int a1]) rfl rfl rfl ?_
        obtain ⟨z814, ez815⟩ : ∃ y, f25 (Int32.toNatClampNeg 1) = y := ⟨_, rfl⟩
        have B816 : sf_B 0 3 z814 := ez815 ▸ (b27 1)
        refine pm_R_iald pm_M66 (pc_q := 14) (v := z814) rfl e26 (T.lt (by decide)) rfl ez815 rfl ?_
        refine pm_R_icmp pm_M66 (t := 21) (pc_q := 17) rfl rfl rfl (fun c817 => ?_) (fun c817 => ?_)
        · have B818 : sf_B 0 2 a1 := sf_ltL c817 B813 B816
          have B819 : sf_B 1 3 z814 := sf_ltR c817 B813 B816
          refine pm_R_lo pm_M66 (pc_q := 22) rfl rfl rfl ?_
          refine pm_R_get pm_M66 (pc_q := 25) (v := .ref 17) rfl rfl T.e16 (by decide) (T.lt (by decide)) rfl rfl ?_
          refine pm_R_get pm_M66 (pc_q := 28) (v := .ref 20) rfl rfl T.e17 (by decide) (T.lt (by decide)) rfl rfl ?_
          refine pm_R_lo pm_M66 (pc_q := 29) rfl rfl rfl ?_
          obtain ⟨f820, e821, b822⟩ := T.C 20 (by decide) (by decide)
          obtain ⟨l823, hx824⟩ := cl_there1 T e26 e821 ez815 c817 B818 (by decide)
          have hk825 := b822 _ _ hx824
          refine pm_R_aald pm_M66 (pc_q := 30) (v := .ref l823) rfl e821 (by decide) (by decide) (by decide) (T.lt (by decide)) (sf_in B818 (by decide) (by decide)) (by rw [hx824]; rfl) rfl ?_
          refine pm_R_ret pm_M66 (r := some (.ref l823)) rfl rfl ?_
          show pm_R _ 115 12 [.ref 16, .int a0, .int a1, .int a2, .null, pm_no, pm_no, pm_no, pm_no] [.ref l823] _ _
          refine pm_R_lo pm_M115 (pc_q := 14) (ls_q := [.ref 16, .int a0, .int a1, .int a2, .null, .ref l823, pm_no, pm_no, pm_no]) (st_q := []) rfl rfl rfl ?_
          refine pm_R_lo pm_M115 (pc_q := 16) rfl rfl rfl ?_
          refine pm_R_br pm_M115 (pc_q := 31) rfl rfl ?_
          refine pm_R_ldc2 pm_M115 (pc_q := 34) rfl rfl rfl ?_
          exact pm_R_ret pm_M115 (r := some (.long (-1))) rfl rfl (K (-1))
        · skip
          refine pm_R_op pm_M66 (pc_q := 18) (st_q := [.null]) rfl rfl rfl ?_
          refine pm_R_br pm_M66 (pc_q := 30) rfl rfl ?_
          refine pm_R_ret pm_M66 (r := some (.null)) rfl rfl ?_
          show pm_R _ 115 12 [.ref 16, .int a0, .int a1, .int a2, .null, pm_no, pm_no, pm_no, pm_no] [.null] _ _
          refine pm_R_lo pm_M115 (pc_q := 14) (ls_q := [.ref 16, .int a0, .int a1, .int a2, .null, .null, pm_no, pm_no, pm_no]) (st_q := []) rfl rfl rfl ?_
          refine pm_R_lo pm_M115 (pc_q := 16) rfl rfl rfl ?_
          refine pm_R_br pm_M115 (pc_q := 31) rfl rfl ?_
          refine pm_R_ldc2 pm_M115 (pc_q := 34) rfl rfl rfl ?_
          exact pm_R_ret pm_M115 (r := some (.long (-1))) rfl rfl (K (-1))

set_option maxRecDepth 100000 in
set_option maxHeartbeats 4000000 in
/-- SilentTable.becomes -/
theorem cl_c118 {d : Nat} {ck : cl_K} {E : Nat → pm_E} {m : Nat → Int32} {o : Nat → Option Nat} {h : pm_H} {Q : Option Value → pm_H → Prop} {a0 : Int32} {a1 : Int32} {a2 : Int32} (G : cl_G ck E) (T : cl_T ck E m o h)  (K : ∀ (r : Int32), sf_B (-1) 9 r → Q (some (.int r)) h) : pm_R (d + 1) 118 0 [.ref 16, .int a0, .int a1, .int a2, pm_no, pm_no, pm_no, pm_no, pm_no, pm_no] [] h Q := by
  refine pm_R_lo pm_M118 (pc_q := 1) rfl rfl rfl ?_
  refine pm_R_lo pm_M118 (pc_q := 2) rfl rfl rfl ?_
  refine pm_R_cv pm_M118 (pc_q := 5) (a := 16) (ra := [.int a0]) (rest := []) (ls_q := [.ref 16, .int a0]) rfl rfl (Or.inl rfl) pm_M62 T.e16 rfl (by decide) (T.lt (by decide)) rfl rfl (Nat.le_of_ble_eq_true rfl) rfl rfl ?_
  refine pm_R_lo pm_M62 (pc_q := 1) rfl rfl rfl ?_
  refine pm_R_ifc pm_M62 (t := 17) (pc_q := 4) rfl rfl rfl (fun c1 => ?_) (fun c1 => ?_)
  · have B2 : sf_B (-2147483648) (-1) a0 := sf_ltL c1 (sf_any a0) sf_k0
    refine pm_R_op pm_M62 (pc_q := 18) (st_q := [.null]) rfl rfl rfl ?_
    refine pm_R_br pm_M62 (pc_q := 30) rfl rfl ?_
    refine pm_R_ret pm_M62 (r := some (.null)) rfl rfl ?_
    show pm_R _ 118 5 [.ref 16, .int a0, .int a1, .int a2, pm_no, pm_no, pm_no, pm_no, pm_no, pm_no] [.null] _ _
    refine pm_R_lo pm_M118 (pc_q := 7) (ls_q := [.ref 16, .int a0, .int a1, .int a2, .null, pm_no, pm_no, pm_no, pm_no, pm_no]) (st_q := []) rfl rfl rfl ?_
    refine pm_R_lo pm_M118 (pc_q := 8) rfl rfl rfl ?_
    refine pm_R_lo pm_M118 (pc_q := 9) rfl rfl rfl ?_
    refine pm_R_cv pm_M118 (pc_q := 12) (a := 16) (ra := [.int a1]) (rest := []) (ls_q := [.ref 16, .int a1]) rfl rfl (Or.inl rfl) pm_M66 T.e16 rfl (by decide) (T.lt (by decide)) rfl rfl (Nat.le_of_ble_eq_true rfl) rfl rfl ?_
    refine pm_R_lo pm_M66 (pc_q := 1) rfl rfl rfl ?_
    refine pm_R_ifc pm_M66 (t := 17) (pc_q := 4) rfl rfl rfl (fun c3 => ?_) (fun c3 => ?_)
    · have B4 : sf_B (-2147483648) (-1) a1 := sf_ltL c3 (sf_any a1) sf_k0
      refine pm_R_op pm_M66 (pc_q := 18) (st_q := [.null]) rfl rfl rfl ?_
      refine pm_R_br pm_M66 (pc_q := 30) rfl rfl ?_
      refine pm_R_ret pm_M66 (r := some (.null)) rfl rfl ?_
      show pm_R _ 118 12 [.ref 16, .int a0, .int a1, .int a2, .null, pm_no, pm_no, pm_no, pm_no, pm_no] [.null] _ _
      refine pm_R_lo pm_M118 (pc_q := 14) (ls_q := [.ref 16, .int a0, .int a1, .int a2, .null, .null, pm_no, pm_no, pm_no, pm_no]) (st_q := []) rfl rfl rfl ?_
      refine pm_R_lo pm_M118 (pc_q := 15) rfl rfl rfl ?_
      refine pm_R_lo pm_M118 (pc_q := 16) rfl rfl rfl ?_
      refine pm_R_cv pm_M118 (pc_q := 19) (a := 16) (ra := [.int a2]) (rest := []) (ls_q := [.ref 16, .int a2]) rfl rfl (Or.inl rfl) pm_M66 T.e16 rfl (by decide) (T.lt (by decide)) rfl rfl (Nat.le_of_ble_eq_true rfl) rfl rfl ?_
      refine pm_R_lo pm_M66 (pc_q := 1) rfl rfl rfl ?_
      refine pm_R_ifc pm_M66 (t := 17) (pc_q := 4) rfl rfl rfl (fun c5 => ?_) (fun c5 => ?_)
      · have B6 : sf_B (-2147483648) (-1) a2 := sf_ltL c5 (sf_any a2) sf_k0
        refine pm_R_op pm_M66 (pc_q := 18) (st_q := [.null]) rfl rfl rfl ?_
        refine pm_R_br pm_M66 (pc_q := 30) rfl rfl ?_
        refine pm_R_ret pm_M66 (r := some (.null)) rfl rfl ?_
        show pm_R _ 118 19 [.ref 16, .int a0, .int a1, .int a2, .null, .null, pm_no, pm_no, pm_no, pm_no] [.null] _ _
        refine pm_R_lo pm_M118 (pc_q := 21) (ls_q := [.ref 16, .int a0, .int a1, .int a2, .null, .null, .null, pm_no, pm_no, pm_no]) (st_q := []) rfl rfl rfl ?_
        refine pm_R_lo pm_M118 (pc_q := 23) rfl rfl rfl ?_
        refine pm_R_br pm_M118 (pc_q := 49) rfl rfl ?_
        refine pm_R_op pm_M118 (pc_q := 50) (st_q := [.int (-1)]) rfl rfl rfl ?_
        exact pm_R_ret pm_M118 (r := some (.int (-1))) rfl rfl (K (-1) (sf_weak sf_kn1 (by decide) (by decide)))
      · have B7 : sf_B 0 2147483647 a2 := sf_leR (Int32.not_lt.mp c5) sf_k0 (sf_any a2)
        refine pm_R_lo pm_M66 (pc_q := 5) rfl rfl rfl ?_
        refine pm_R_lo pm_M66 (pc_q := 6) rfl rfl rfl ?_
        refine pm_R_get pm_M66 (pc_q := 9) (v := .ref 17) rfl rfl T.e16 (by decide) (T.lt (by decide)) rfl rfl ?_
        refine pm_R_get pm_M66 (pc_q := 12) (v := .ref 23) rfl rfl T.e17 (by decide) (T.lt (by decide)) rfl rfl ?_
        refine pm_R_op pm_M66 (pc_q := 13) (st_q := [.int 1, .ref 23, .int a2]) rfl rfl rfl ?_
        obtain ⟨f11, e12, b13⟩ := T.C 23 (by decide) (by decide)
        obtain ⟨z8, ez9⟩ : ∃ y, f11 (Int32.toNatClampNeg 1) = y := ⟨_, rfl⟩
        have B10 : sf_B 0 3 z8 := ez9 ▸ (b13 1)
        refine pm_R_iald pm_M66 (pc_q := 14) (v := z8) rfl e12 (T.lt (by decide)) rfl ez9 rfl ?_
        refine pm_R_icmp pm_M66 (t := 21) (pc_q := 17) rfl rfl rfl (fun c14 => ?_) (fun c14 => ?_)
        · have B15 : sf_B 0 2 a2 := sf_ltL c14 B7 B10
          have B16 : sf_B 1 3 z8 := sf_ltR c14 B7 B10
          refine pm_R_lo pm_M66 (pc_q := 22) rfl rfl rfl ?_
          refine pm_R_get pm_M66 (pc_q := 25) (v := .ref 17) rfl rfl T.e16 (by decide) (T.lt (by decide)) rfl rfl ?_
          refine pm_R_get pm_M66 (pc_q := 28) (v := .ref 20) rfl rfl T.e17 (by decide) (T.lt (by decide)) rfl rfl ?_
          refine pm_R_lo pm_M66 (pc_q := 29) rfl rfl rfl ?_
          obtain ⟨f17, e18, b19⟩ := T.C 20 (by decide) (by decide)
          obtain ⟨l20, hx21⟩ := cl_there1 T e12 e18 ez9 c14 B15 (by decide)
          have hk22 := b19 _ _ hx21
          refine pm_R_aald pm_M66 (pc_q := 30) (v := .ref l20) rfl e18 (by decide) (by decide) (by decide) (T.lt (by decide)) (sf_in B15 (by decide) (by decide)) (by rw [hx21]; rfl) rfl ?_
          refine pm_R_ret pm_M66 (r := some (.ref l20)) rfl rfl ?_
          show pm_R _ 118 19 [.ref 16, .int a0, .int a1, .int a2, .null, .null, pm_no, pm_no, pm_no, pm_no] [.ref l20] _ _
          refine pm_R_lo pm_M118 (pc_q := 21) (ls_q := [.ref 16, .int a0, .int a1, .int a2, .null, .null, .ref l20, pm_no, pm_no, pm_no]) (st_q := []) rfl rfl rfl ?_
          refine pm_R_lo pm_M118 (pc_q := 23) rfl rfl rfl ?_
          refine pm_R_br pm_M118 (pc_q := 49) rfl rfl ?_
          refine pm_R_op pm_M118 (pc_q := 50) (st_q := [.int (-1)]) rfl rfl rfl ?_
          exact pm_R_ret pm_M118 (r := some (.int (-1))) rfl rfl (K (-1) (sf_weak sf_kn1 (by decide) (by decide)))
        · skip
          refine pm_R_op pm_M66 (pc_q := 18) (st_q := [.null]) rfl rfl rfl ?_
          refine pm_R_br pm_M66 (pc_q := 30) rfl rfl ?_
          refine pm_R_ret pm_M66 (r := some (.null)) rfl rfl ?_
          show pm_R _ 118 19 [.ref 16, .int a0, .int a1, .int a2, .null, .null, pm_no, pm_no, pm_no, pm_no] [.null] _ _
          refine pm_R_lo pm_M118 (pc_q := 21) (ls_q := [.ref 16, .int a0, .int a1, .int a2, .null, .null, .null, pm_no, pm_no, pm_no]) (st_q := []) rfl rfl rfl ?_
          refine pm_R_lo pm_M118 (pc_q := 23) rfl rfl rfl ?_
          refine pm_R_br pm_M118 (pc_q := 49) rfl rfl ?_
          refine pm_R_op pm_M118 (pc_q := 50) (st_q := [.int (-1)]) rfl rfl rfl ?_
          exact pm_R_ret pm_M118 (r := some (.int (-1))) rfl rfl (K (-1) (sf_weak sf_kn1 (by decide) (by decide)))
    · have B23 : sf_B 0 2147483647 a1 := sf_leR (Int32.not_lt.mp c3) sf_k0 (sf_any a1)
      refine pm_R_lo pm_M66 (pc_q := 5) rfl rfl rfl ?_
      refine pm_R_lo pm_M66 (pc_q := 6) rfl rfl rfl ?_
      refine pm_R_get pm_M66 (pc_q := 9) (v := .ref 17) rfl rfl T.e16 (by decide) (T.lt (by decide)) rfl rfl ?_
      refine pm_R_get pm_M66 (pc_q := 12) (v := .ref 23) rfl rfl T.e17 (by decide) (T.lt (by decide)) rfl rfl ?_
      refine pm_R_op pm_M66 (pc_q := 13) (st_q := [.int 1, .ref 23, .int a1]) rfl rfl rfl ?_
      obtain ⟨f27, e28, b29⟩ := T.C 23 (by decide) (by decide)
      obtain ⟨z24, ez25⟩ : ∃ y, f27 (Int32.toNatClampNeg 1) = y := ⟨_, rfl⟩
      have B26 : sf_B 0 3 z24 := ez25 ▸ (b29 1)
      refine pm_R_iald pm_M66 (pc_q := 14) (v := z24) rfl e28 (T.lt (by decide)) rfl ez25 rfl ?_
      refine pm_R_icmp pm_M66 (t := 21) (pc_q := 17) rfl rfl rfl (fun c30 => ?_) (fun c30 => ?_)
      · have B31 : sf_B 0 2 a1 := sf_ltL c30 B23 B26
        have B32 : sf_B 1 3 z24 := sf_ltR c30 B23 B26
        refine pm_R_lo pm_M66 (pc_q := 22) rfl rfl rfl ?_
        refine pm_R_get pm_M66 (pc_q := 25) (v := .ref 17) rfl rfl T.e16 (by decide) (T.lt (by decide)) rfl rfl ?_
        refine pm_R_get pm_M66 (pc_q := 28) (v := .ref 20) rfl rfl T.e17 (by decide) (T.lt (by decide)) rfl rfl ?_
        refine pm_R_lo pm_M66 (pc_q := 29) rfl rfl rfl ?_
        obtain ⟨f33, e34, b35⟩ := T.C 20 (by decide) (by decide)
        obtain ⟨l36, hx37⟩ := cl_there1 T e28 e34 ez25 c30 B31 (by decide)
        have hk38 := b35 _ _ hx37
        refine pm_R_aald pm_M66 (pc_q := 30) (v := .ref l36) rfl e34 (by decide) (by decide) (by decide) (T.lt (by decide)) (sf_in B31 (by decide) (by decide)) (by rw [hx37]; rfl) rfl ?_
        refine pm_R_ret pm_M66 (r := some (.ref l36)) rfl rfl ?_
        show pm_R _ 118 12 [.ref 16, .int a0, .int a1, .int a2, .null, pm_no, pm_no, pm_no, pm_no, pm_no] [.ref l36] _ _
        refine pm_R_lo pm_M118 (pc_q := 14) (ls_q := [.ref 16, .int a0, .int a1, .int a2, .null, .ref l36, pm_no, pm_no, pm_no, pm_no]) (st_q := []) rfl rfl rfl ?_
        refine pm_R_lo pm_M118 (pc_q := 15) rfl rfl rfl ?_
        refine pm_R_lo pm_M118 (pc_q := 16) rfl rfl rfl ?_
        refine pm_R_cv pm_M118 (pc_q := 19) (a := 16) (ra := [.int a2]) (rest := []) (ls_q := [.ref 16, .int a2]) rfl rfl (Or.inl rfl) pm_M66 T.e16 rfl (by decide) (T.lt (by decide)) rfl rfl (Nat.le_of_ble_eq_true rfl) rfl rfl ?_
        refine pm_R_lo pm_M66 (pc_q := 1) rfl rfl rfl ?_
        refine pm_R_ifc pm_M66 (t := 17) (pc_q := 4) rfl rfl rfl (fun c39 => ?_) (fun c39 => ?_)
        · have B40 : sf_B (-2147483648) (-1) a2 := sf_ltL c39 (sf_any a2) sf_k0
          refine pm_R_op pm_M66 (pc_q := 18) (st_q := [.null]) rfl rfl rfl ?_
          refine pm_R_br pm_M66 (pc_q := 30) rfl rfl ?_
          refine pm_R_ret pm_M66 (r := some (.null)) rfl rfl ?_
          show pm_R _ 118 19 [.ref 16, .int a0, .int a1, .int a2, .null, .ref l36, pm_no, pm_no, pm_no, pm_no] [.null] _ _
          refine pm_R_lo pm_M118 (pc_q := 21) (ls_q := [.ref 16, .int a0, .int a1, .int a2, .null, .ref l36, .null, pm_no, pm_no, pm_no]) (st_q := []) rfl rfl rfl ?_
          refine pm_R_lo pm_M118 (pc_q := 23) rfl rfl rfl ?_
          refine pm_R_br pm_M118 (pc_q := 49) rfl rfl ?_
          refine pm_R_op pm_M118 (pc_q := 50) (st_q := [.int (-1)]) rfl rfl rfl ?_
          exact pm_R_ret pm_M118 (r := some (.int (-1))) rfl rfl (K (-1) (sf_weak sf_kn1 (by decide) (by decide)))
        · have B41 : sf_B 0 2147483647 a2 := sf_leR (Int32.not_lt.mp c39) sf_k0 (sf_any a2)
          refine pm_R_lo pm_M66 (pc_q := 5) rfl rfl rfl ?_
          refine pm_R_lo pm_M66 (pc_q := 6) rfl rfl rfl ?_
          refine pm_R_get pm_M66 (pc_q := 9) (v := .ref 17) rfl rfl T.e16 (by decide) (T.lt (by decide)) rfl rfl ?_
          refine pm_R_get pm_M66 (pc_q := 12) (v := .ref 23) rfl rfl T.e17 (by decide) (T.lt (by decide)) rfl rfl ?_
          refine pm_R_op pm_M66 (pc_q := 13) (st_q := [.int 1, .ref 23, .int a2]) rfl rfl rfl ?_
          refine pm_R_iald pm_M66 (pc_q := 14) (v := z24) rfl e28 (T.lt (by decide)) rfl ez25 rfl ?_
          refine pm_R_icmp pm_M66 (t := 21) (pc_q := 17) rfl rfl rfl (fun c45 => ?_) (fun c45 => ?_)
          · have B46 : sf_B 0 2 a2 := sf_ltL c45 B41 B32
            refine pm_R_lo pm_M66 (pc_q := 22) rfl rfl rfl ?_
            refine pm_R_get pm_M66 (pc_q := 25) (v := .ref 17) rfl rfl T.e16 (by decide) (T.lt (by decide)) rfl rfl ?_
            refine pm_R_get pm_M66 (pc_q := 28) (v := .ref 20) rfl rfl T.e17 (by decide) (T.lt (by decide)) rfl rfl ?_
            refine pm_R_lo pm_M66 (pc_q := 29) rfl rfl rfl ?_
            obtain ⟨l47, hx48⟩ := cl_there1 T e28 e34 ez25 c45 B46 (by decide)
            have hk49 := b35 _ _ hx48
            refine pm_R_aald pm_M66 (pc_q := 30) (v := .ref l47) rfl e34 (by decide) (by decide) (by decide) (T.lt (by decide)) (sf_in B46 (by decide) (by decide)) (by rw [hx48]; rfl) rfl ?_
            refine pm_R_ret pm_M66 (r := some (.ref l47)) rfl rfl ?_
            show pm_R _ 118 19 [.ref 16, .int a0, .int a1, .int a2, .null, .ref l36, pm_no, pm_no, pm_no, pm_no] [.ref l47] _ _
            refine pm_R_lo pm_M118 (pc_q := 21) (ls_q := [.ref 16, .int a0, .int a1, .int a2, .null, .ref l36, .ref l47, pm_no, pm_no, pm_no]) (st_q := []) rfl rfl rfl ?_
            refine pm_R_lo pm_M118 (pc_q := 23) rfl rfl rfl ?_
            refine pm_R_br pm_M118 (pc_q := 49) rfl rfl ?_
            refine pm_R_op pm_M118 (pc_q := 50) (st_q := [.int (-1)]) rfl rfl rfl ?_
            exact pm_R_ret pm_M118 (r := some (.int (-1))) rfl rfl (K (-1) (sf_weak sf_kn1 (by decide) (by decide)))
          · have B50 : sf_B 1 2147483647 a2 := sf_leR (Int32.not_lt.mp c45) B32 B41
            refine pm_R_op pm_M66 (pc_q := 18) (st_q := [.null]) rfl rfl rfl ?_
            refine pm_R_br pm_M66 (pc_q := 30) rfl rfl ?_
            refine pm_R_ret pm_M66 (r := some (.null)) rfl rfl ?_
            show pm_R _ 118 19 [.ref 16, .int a0, .int a1, .int a2, .null, .ref l36, pm_no, pm_no, pm_no, pm_no] [.null] _ _
            refine pm_R_lo pm_M118 (pc_q := 21) (ls_q := [.ref 16, .int a0, .int a1, .int a2, .null, .ref l36, .null, pm_no, pm_no, pm_no]) (st_q := []) rfl rfl rfl ?_
            refine pm_R_lo pm_M118 (pc_q := 23) rfl rfl rfl ?_
            refine pm_R_br pm_M118 (pc_q := 49) rfl rfl ?_
            refine pm_R_op pm_M118 (pc_q := 50) (st_q := [.int (-1)]) rfl rfl rfl ?_
            exact pm_R_ret pm_M118 (r := some (.int (-1))) rfl rfl (K (-1) (sf_weak sf_kn1 (by decide) (by decide)))
      · skip
        refine pm_R_op pm_M66 (pc_q := 18) (st_q := [.null]) rfl rfl rfl ?_
        refine pm_R_br pm_M66 (pc_q := 30) rfl rfl ?_
        refine pm_R_ret pm_M66 (r := some (.null)) rfl rfl ?_
        show pm_R _ 118 12 [.ref 16, .int a0, .int a1, .int a2, .null, pm_no, pm_no, pm_no, pm_no, pm_no] [.null] _ _
        refine pm_R_lo pm_M118 (pc_q := 14) (ls_q := [.ref 16, .int a0, .int a1, .int a2, .null, .null, pm_no, pm_no, pm_no, pm_no]) (st_q := []) rfl rfl rfl ?_
        refine pm_R_lo pm_M118 (pc_q := 15) rfl rfl rfl ?_
        refine pm_R_lo pm_M118 (pc_q := 16) rfl rfl rfl ?_
        refine pm_R_cv pm_M118 (pc_q := 19) (a := 16) (ra := [.int a2]) (rest := []) (ls_q := [.ref 16, .int a2]) rfl rfl (Or.inl rfl) pm_M66 T.e16 rfl (by decide) (T.lt (by decide)) rfl rfl (Nat.le_of_ble_eq_true rfl) rfl rfl ?_
        refine pm_R_lo pm_M66 (pc_q := 1) rfl rfl rfl ?_
        refine pm_R_ifc pm_M66 (t := 17) (pc_q := 4) rfl rfl rfl (fun c51 => ?_) (fun c51 => ?_)
        · have B52 : sf_B (-2147483648) (-1) a2 := sf_ltL c51 (sf_any a2) sf_k0
          refine pm_R_op pm_M66 (pc_q := 18) (st_q := [.null]) rfl rfl rfl ?_
          refine pm_R_br pm_M66 (pc_q := 30) rfl rfl ?_
          refine pm_R_ret pm_M66 (r := some (.null)) rfl rfl ?_
          show pm_R _ 118 19 [.ref 16, .int a0, .int a1, .int a2, .null, .null, pm_no, pm_no, pm_no, pm_no] [.null] _ _
          refine pm_R_lo pm_M118 (pc_q := 21) (ls_q := [.ref 16, .int a0, .int a1, .int a2, .null, .null, .null, pm_no, pm_no, pm_no]) (st_q := []) rfl rfl rfl ?_
          refine pm_R_lo pm_M118 (pc_q := 23) rfl rfl rfl ?_
          refine pm_R_br pm_M118 (pc_q := 49) rfl rfl ?_
          refine pm_R_op pm_M118 (pc_q := 50) (st_q := [.int (-1)]) rfl rfl rfl ?_
          exact pm_R_ret pm_M118 (r := some (.int (-1))) rfl rfl (K (-1) (sf_weak sf_kn1 (by decide) (by decide)))
        · have B53 : sf_B 0 2147483647 a2 := sf_leR (Int32.not_lt.mp c51) sf_k0 (sf_any a2)
          refine pm_R_lo pm_M66 (pc_q := 5) rfl rfl rfl ?_
          refine pm_R_lo pm_M66 (pc_q := 6) rfl rfl rfl ?_
          refine pm_R_get pm_M66 (pc_q := 9) (v := .ref 17) rfl rfl T.e16 (by decide) (T.lt (by decide)) rfl rfl ?_
          refine pm_R_get pm_M66 (pc_q := 12) (v := .ref 23) rfl rfl T.e17 (by decide) (T.lt (by decide)) rfl rfl ?_
          refine pm_R_op pm_M66 (pc_q := 13) (st_q := [.int 1, .ref 23, .int a2]) rfl rfl rfl ?_
          refine pm_R_iald pm_M66 (pc_q := 14) (v := z24) rfl e28 (T.lt (by decide)) rfl ez25 rfl ?_
          refine pm_R_icmp pm_M66 (t := 21) (pc_q := 17) rfl rfl rfl (fun c57 => ?_) (fun c57 => ?_)
          · have B58 : sf_B 0 2 a2 := sf_ltL c57 B53 B26
            have B59 : sf_B 1 3 z24 := sf_ltR c57 B53 B26
            refine pm_R_lo pm_M66 (pc_q := 22) rfl rfl rfl ?_
            refine pm_R_get pm_M66 (pc_q := 25) (v := .ref 17) rfl rfl T.e16 (by decide) (T.lt (by decide)) rfl rfl ?_
            refine pm_R_get pm_M66 (pc_q := 28) (v := .ref 20) rfl rfl T.e17 (by decide) (T.lt (by decide)) rfl rfl ?_
            refine pm_R_lo pm_M66 (pc_q := 29) rfl rfl rfl ?_
            obtain ⟨f60, e61, b62⟩ := T.C 20 (by decide) (by decide)
            obtain ⟨l63, hx64⟩ := cl_there1 T e28 e61 ez25 c57 B58 (by decide)
            have hk65 := b62 _ _ hx64
            refine pm_R_aald pm_M66 (pc_q := 30) (v := .ref l63) rfl e61 (by decide) (by decide) (by decide) (T.lt (by decide)) (sf_in B58 (by decide) (by decide)) (by rw [hx64]; rfl) rfl ?_
            refine pm_R_ret pm_M66 (r := some (.ref l63)) rfl rfl ?_
            show pm_R _ 118 19 [.ref 16, .int a0, .int a1, .int a2, .null, .null, pm_no, pm_no, pm_no, pm_no] [.ref l63] _ _
            refine pm_R_lo pm_M118 (pc_q := 21) (ls_q := [.ref 16, .int a0, .int a1, .int a2, .null, .null, .ref l63, pm_no, pm_no, pm_no]) (st_q := []) rfl rfl rfl ?_
            refine pm_R_lo pm_M118 (pc_q := 23) rfl rfl rfl ?_
            refine pm_R_br pm_M118 (pc_q := 49) rfl rfl ?_
            refine pm_R_op pm_M118 (pc_q := 50) (st_q := [.int (-1)]) rfl rfl rfl ?_
            exact pm_R_ret pm_M118 (r := some (.int (-1))) rfl rfl (K (-1) (sf_weak sf_kn1 (by decide) (by decide)))
          · skip
            refine pm_R_op pm_M66 (pc_q := 18) (st_q := [.null]) rfl rfl rfl ?_
            refine pm_R_br pm_M66 (pc_q := 30) rfl rfl ?_
            refine pm_R_ret pm_M66 (r := some (.null)) rfl rfl ?_
            show pm_R _ 118 19 [.ref 16, .int a0, .int a1, .int a2, .null, .null, pm_no, pm_no, pm_no, pm_no] [.null] _ _
            refine pm_R_lo pm_M118 (pc_q := 21) (ls_q := [.ref 16, .int a0, .int a1, .int a2, .null, .null, .null, pm_no, pm_no, pm_no]) (st_q := []) rfl rfl rfl ?_
            refine pm_R_lo pm_M118 (pc_q := 23) rfl rfl rfl ?_
            refine pm_R_br pm_M118 (pc_q := 49) rfl rfl ?_
            refine pm_R_op pm_M118 (pc_q := 50) (st_q := [.int (-1)]) rfl rfl rfl ?_
            exact pm_R_ret pm_M118 (r := some (.int (-1))) rfl rfl (K (-1) (sf_weak sf_kn1 (by decide) (by decide)))
  · have B66 : sf_B 0 2147483647 a0 := sf_leR (Int32.not_lt.mp c1) sf_k0 (sf_any a0)
    refine pm_R_lo pm_M62 (pc_q := 5) rfl rfl rfl ?_
    refine pm_R_lo pm_M62 (pc_q := 6) rfl rfl rfl ?_
    refine pm_R_get pm_M62 (pc_q := 9) (v := .ref 17) rfl rfl T.e16 (by decide) (T.lt (by decide)) rfl rfl ?_
    refine pm_R_get pm_M62 (pc_q := 12) (v := .ref 23) rfl rfl T.e17 (by decide) (T.lt (by decide)) rfl rfl ?_
    refine pm_R_op pm_M62 (pc_q := 13) (st_q := [.int 0, .ref 23, .int a0]) rfl rfl rfl ?_
    obtain ⟨f70, e71, b72⟩ := T.C 23 (by decide) (by decide)
    obtain ⟨z67, ez68⟩ : ∃ y, f70 (Int32.toNatClampNeg 0) = y := ⟨_, rfl⟩
    have B69 : sf_B 0 2 z67 := ez68 ▸ (b72 0)
    refine pm_R_iald pm_M62 (pc_q := 14) (v := z67) rfl e71 (T.lt (by decide)) rfl ez68 rfl ?_
    refine pm_R_icmp pm_M62 (t := 21) (pc_q := 17) rfl rfl rfl (fun c73 => ?_) (fun c73 => ?_)
    · have B74 : sf_B 0 1 a0 := sf_ltL c73 B66 B69
      have B75 : sf_B 1 2 z67 := sf_ltR c73 B66 B69
      refine pm_R_lo pm_M62 (pc_q := 22) rfl rfl rfl ?_
      refine pm_R_get pm_M62 (pc_q := 25) (v := .ref 17) rfl rfl T.e16 (by decide) (T.lt (by decide)) rfl rfl ?_
      refine pm_R_get pm_M62 (pc_q := 28) (v := .ref 19) rfl rfl T.e17 (by decide) (T.lt (by decide)) rfl rfl ?_
      refine pm_R_lo pm_M62 (pc_q := 29) rfl rfl rfl ?_
      obtain ⟨f76, e77, b78⟩ := T.C 19 (by decide) (by decide)
      obtain ⟨l79, hx80⟩ := cl_there0 T e71 e77 ez68 c73 B74 (by decide)
      have hk81 := b78 _ _ hx80
      refine pm_R_aald pm_M62 (pc_q := 30) (v := .ref l79) rfl e77 (by decide) (by decide) (by decide) (T.lt (by decide)) (sf_in B74 (by decide) (by decide)) (by rw [hx80]; rfl) rfl ?_
      refine pm_R_ret pm_M62 (r := some (.ref l79)) rfl rfl ?_
      show pm_R _ 118 5 [.ref 16, .int a0, .int a1, .int a2, pm_no, pm_no, pm_no, pm_no, pm_no, pm_no] [.ref l79] _ _
      refine pm_R_lo pm_M118 (pc_q := 7) (ls_q := [.ref 16, .int a0, .int a1, .int a2, .ref l79, pm_no, pm_no, pm_no, pm_no, pm_no]) (st_q := []) rfl rfl rfl ?_
      refine pm_R_lo pm_M118 (pc_q := 8) rfl rfl rfl ?_
      refine pm_R_lo pm_M118 (pc_q := 9) rfl rfl rfl ?_
      refine pm_R_cv pm_M118 (pc_q := 12) (a := 16) (ra := [.int a1]) (rest := []) (ls_q := [.ref 16, .int a1]) rfl rfl (Or.inl rfl) pm_M66 T.e16 rfl (by decide) (T.lt (by decide)) rfl rfl (Nat.le_of_ble_eq_true rfl) rfl rfl ?_
      refine pm_R_lo pm_M66 (pc_q := 1) rfl rfl rfl ?_
      refine pm_R_ifc pm_M66 (t := 17) (pc_q := 4) rfl rfl rfl (fun c82 => ?_) (fun c82 => ?_)
      · have B83 : sf_B (-2147483648) (-1) a1 := sf_ltL c82 (sf_any a1) sf_k0
        refine pm_R_op pm_M66 (pc_q := 18) (st_q := [.null]) rfl rfl rfl ?_
        refine pm_R_br pm_M66 (pc_q := 30) rfl rfl ?_
        refine pm_R_ret pm_M66 (r := some (.null)) rfl rfl ?_
        show pm_R _ 118 12 [.ref 16, .int a0, .int a1, .int a2, .ref l79, pm_no, pm_no, pm_no, pm_no, pm_no] [.null] _ _
        refine pm_R_lo pm_M118 (pc_q := 14) (ls_q := [.ref 16, .int a0, .int a1, .int a2, .ref l79, .null, pm_no, pm_no, pm_no, pm_no]) (st_q := []) rfl rfl rfl ?_
        refine pm_R_lo pm_M118 (pc_q := 15) rfl rfl rfl ?_
        refine pm_R_lo pm_M118 (pc_q := 16) rfl rfl rfl ?_
        refine pm_R_cv pm_M118 (pc_q := 19) (a := 16) (ra := [.int a2]) (rest := []) (ls_q := [.ref 16, .int a2]) rfl rfl (Or.inl rfl) pm_M66 T.e16 rfl (by decide) (T.lt (by decide)) rfl rfl (Nat.le_of_ble_eq_true rfl) rfl rfl ?_
        refine pm_R_lo pm_M66 (pc_q := 1) rfl rfl rfl ?_
        refine pm_R_ifc pm_M66 (t := 17) (pc_q := 4) rfl rfl rfl (fun c84 => ?_) (fun c84 => ?_)
        · have B85 : sf_B (-2147483648) (-1) a2 := sf_ltL c84 (sf_any a2) sf_k0
          refine pm_R_op pm_M66 (pc_q := 18) (st_q := [.null]) rfl rfl rfl ?_
          refine pm_R_br pm_M66 (pc_q := 30) rfl rfl ?_
          refine pm_R_ret pm_M66 (r := some (.null)) rfl rfl ?_
          show pm_R _ 118 19 [.ref 16, .int a0, .int a1, .int a2, .ref l79, .null, pm_no, pm_no, pm_no, pm_no] [.null] _ _
          refine pm_R_lo pm_M118 (pc_q := 21) (ls_q := [.ref 16, .int a0, .int a1, .int a2, .ref l79, .null, .null, pm_no, pm_no, pm_no]) (st_q := []) rfl rfl rfl ?_
          refine pm_R_lo pm_M118 (pc_q := 23) rfl rfl rfl ?_
          refine pm_R_br pm_M118 (pc_q := 26) rfl rfl ?_
          refine pm_R_lo pm_M118 (pc_q := 28) rfl rfl rfl ?_
          refine pm_R_br pm_M118 (pc_q := 49) rfl rfl ?_
          refine pm_R_op pm_M118 (pc_q := 50) (st_q := [.int (-1)]) rfl rfl rfl ?_
          exact pm_R_ret pm_M118 (r := some (.int (-1))) rfl rfl (K (-1) (sf_weak sf_kn1 (by decide) (by decide)))
        · have B86 : sf_B 0 2147483647 a2 := sf_leR (Int32.not_lt.mp c84) sf_k0 (sf_any a2)
          refine pm_R_lo pm_M66 (pc_q := 5) rfl rfl rfl ?_
          refine pm_R_lo pm_M66 (pc_q := 6) rfl rfl rfl ?_
          refine pm_R_get pm_M66 (pc_q := 9) (v := .ref 17) rfl rfl T.e16 (by decide) (T.lt (by decide)) rfl rfl ?_
          refine pm_R_get pm_M66 (pc_q := 12) (v := .ref 23) rfl rfl T.e17 (by decide) (T.lt (by decide)) rfl rfl ?_
          refine pm_R_op pm_M66 (pc_q := 13) (st_q := [.int 1, .ref 23, .int a2]) rfl rfl rfl ?_
          obtain ⟨z87, ez88⟩ : ∃ y, f70 (Int32.toNatClampNeg 1) = y := ⟨_, rfl⟩
          have B89 : sf_B 0 3 z87 := ez88 ▸ (b72 1)
          refine pm_R_iald pm_M66 (pc_q := 14) (v := z87) rfl e71 (T.lt (by decide)) rfl ez88 rfl ?_
          refine pm_R_icmp pm_M66 (t := 21) (pc_q := 17) rfl rfl rfl (fun c90 => ?_) (fun c90 => ?_)
          · have B91 : sf_B 0 2 a2 := sf_ltL c90 B86 B89
            have B92 : sf_B 1 3 z87 := sf_ltR c90 B86 B89
            refine pm_R_lo pm_M66 (pc_q := 22) rfl rfl rfl ?_
            refine pm_R_get pm_M66 (pc_q := 25) (v := .ref 17) rfl rfl T.e16 (by decide) (T.lt (by decide)) rfl rfl ?_
            refine pm_R_get pm_M66 (pc_q := 28) (v := .ref 20) rfl rfl T.e17 (by decide) (T.lt (by decide)) rfl rfl ?_
            refine pm_R_lo pm_M66 (pc_q := 29) rfl rfl rfl ?_
            obtain ⟨f93, e94, b95⟩ := T.C 20 (by decide) (by decide)
            obtain ⟨l96, hx97⟩ := cl_there1 T e71 e94 ez88 c90 B91 (by decide)
            have hk98 := b95 _ _ hx97
            refine pm_R_aald pm_M66 (pc_q := 30) (v := .ref l96) rfl e94 (by decide) (by decide) (by decide) (T.lt (by decide)) (sf_in B91 (by decide) (by decide)) (by rw [hx97]; rfl) rfl ?_
            refine pm_R_ret pm_M66 (r := some (.ref l96)) rfl rfl ?_
            show pm_R _ 118 19 [.ref 16, .int a0, .int a1, .int a2, .ref l79, .null, pm_no, pm_no, pm_no, pm_no] [.ref l96] _ _
            refine pm_R_lo pm_M118 (pc_q := 21) (ls_q := [.ref 16, .int a0, .int a1, .int a2, .ref l79, .null, .ref l96, pm_no, pm_no, pm_no]) (st_q := []) rfl rfl rfl ?_
            refine pm_R_lo pm_M118 (pc_q := 23) rfl rfl rfl ?_
            refine pm_R_br pm_M118 (pc_q := 26) rfl rfl ?_
            refine pm_R_lo pm_M118 (pc_q := 28) rfl rfl rfl ?_
            refine pm_R_br pm_M118 (pc_q := 49) rfl rfl ?_
            refine pm_R_op pm_M118 (pc_q := 50) (st_q := [.int (-1)]) rfl rfl rfl ?_
            exact pm_R_ret pm_M118 (r := some (.int (-1))) rfl rfl (K (-1) (sf_weak sf_kn1 (by decide) (by decide)))
          · skip
            refine pm_R_op pm_M66 (pc_q := 18) (st_q := [.null]) rfl rfl rfl ?_
            refine pm_R_br pm_M66 (pc_q := 30) rfl rfl ?_
            refine pm_R_ret pm_M66 (r := some (.null)) rfl rfl ?_
            show pm_R _ 118 19 [.ref 16, .int a0, .int a1, .int a2, .ref l79, .null, pm_no, pm_no, pm_no, pm_no] [.null] _ _
            refine pm_R_lo pm_M118 (pc_q := 21) (ls_q := [.ref 16, .int a0, .int a1, .int a2, .ref l79, .null, .null, pm_no, pm_no, pm_no]) (st_q := []) rfl rfl rfl ?_
            refine pm_R_lo pm_M118 (pc_q := 23) rfl rfl rfl ?_
            refine pm_R_br pm_M118 (pc_q := 26) rfl rfl ?_
            refine pm_R_lo pm_M118 (pc_q := 28) rfl rfl rfl ?_
            refine pm_R_br pm_M118 (pc_q := 49) rfl rfl ?_
            refine pm_R_op pm_M118 (pc_q := 50) (st_q := [.int (-1)]) rfl rfl rfl ?_
            exact pm_R_ret pm_M118 (r := some (.int (-1))) rfl rfl (K (-1) (sf_weak sf_kn1 (by decide) (by decide)))
      · have B99 : sf_B 0 2147483647 a1 := sf_leR (Int32.not_lt.mp c82) sf_k0 (sf_any a1)
        refine pm_R_lo pm_M66 (pc_q := 5) rfl rfl rfl ?_
        refine pm_R_lo pm_M66 (pc_q := 6) rfl rfl rfl ?_
        refine pm_R_get pm_M66 (pc_q := 9) (v := .ref 17) rfl rfl T.e16 (by decide) (T.lt (by decide)) rfl rfl ?_
        refine pm_R_get pm_M66 (pc_q := 12) (v := .ref 23) rfl rfl T.e17 (by decide) (T.lt (by decide)) rfl rfl ?_
        refine pm_R_op pm_M66 (pc_q := 13) (st_q := [.int 1, .ref 23, .int a1]) rfl rfl rfl ?_
        obtain ⟨z100, ez101⟩ : ∃ y, f70 (Int32.toNatClampNeg 1) = y := ⟨_, rfl⟩
        have B102 : sf_B 0 3 z100 := ez101 ▸ (b72 1)
        refine pm_R_iald pm_M66 (pc_q := 14) (v := z100) rfl e71 (T.lt (by decide)) rfl ez101 rfl ?_
        refine pm_R_icmp pm_M66 (t := 21) (pc_q := 17) rfl rfl rfl (fun c103 => ?_) (fun c103 => ?_)
        · have B104 : sf_B 0 2 a1 := sf_ltL c103 B99 B102
          have B105 : sf_B 1 3 z100 := sf_ltR c103 B99 B102
          refine pm_R_lo pm_M66 (pc_q := 22) rfl rfl rfl ?_
          refine pm_R_get pm_M66 (pc_q := 25) (v := .ref 17) rfl rfl T.e16 (by decide) (T.lt (by decide)) rfl rfl ?_
          refine pm_R_get pm_M66 (pc_q := 28) (v := .ref 20) rfl rfl T.e17 (by decide) (T.lt (by decide)) rfl rfl ?_
          refine pm_R_lo pm_M66 (pc_q := 29) rfl rfl rfl ?_
          obtain ⟨f106, e107, b108⟩ := T.C 20 (by decide) (by decide)
          obtain ⟨l109, hx110⟩ := cl_there1 T e71 e107 ez101 c103 B104 (by decide)
          have hk111 := b108 _ _ hx110
          refine pm_R_aald pm_M66 (pc_q := 30) (v := .ref l109) rfl e107 (by decide) (by decide) (by decide) (T.lt (by decide)) (sf_in B104 (by decide) (by decide)) (by rw [hx110]; rfl) rfl ?_
          refine pm_R_ret pm_M66 (r := some (.ref l109)) rfl rfl ?_
          show pm_R _ 118 12 [.ref 16, .int a0, .int a1, .int a2, .ref l79, pm_no, pm_no, pm_no, pm_no, pm_no] [.ref l109] _ _
          refine pm_R_lo pm_M118 (pc_q := 14) (ls_q := [.ref 16, .int a0, .int a1, .int a2, .ref l79, .ref l109, pm_no, pm_no, pm_no, pm_no]) (st_q := []) rfl rfl rfl ?_
          refine pm_R_lo pm_M118 (pc_q := 15) rfl rfl rfl ?_
          refine pm_R_lo pm_M118 (pc_q := 16) rfl rfl rfl ?_
          refine pm_R_cv pm_M118 (pc_q := 19) (a := 16) (ra := [.int a2]) (rest := []) (ls_q := [.ref 16, .int a2]) rfl rfl (Or.inl rfl) pm_M66 T.e16 rfl (by decide) (T.lt (by decide)) rfl rfl (Nat.le_of_ble_eq_true rfl) rfl rfl ?_
          refine pm_R_lo pm_M66 (pc_q := 1) rfl rfl rfl ?_
          refine pm_R_ifc pm_M66 (t := 17) (pc_q := 4) rfl rfl rfl (fun c112 => ?_) (fun c112 => ?_)
          · have B113 : sf_B (-2147483648) (-1) a2 := sf_ltL c112 (sf_any a2) sf_k0
            refine pm_R_op pm_M66 (pc_q := 18) (st_q := [.null]) rfl rfl rfl ?_
            refine pm_R_br pm_M66 (pc_q := 30) rfl rfl ?_
            refine pm_R_ret pm_M66 (r := some (.null)) rfl rfl ?_
            show pm_R _ 118 19 [.ref 16, .int a0, .int a1, .int a2, .ref l79, .ref l109, pm_no, pm_no, pm_no, pm_no] [.null] _ _
            refine pm_R_lo pm_M118 (pc_q := 21) (ls_q := [.ref 16, .int a0, .int a1, .int a2, .ref l79, .ref l109, .null, pm_no, pm_no, pm_no]) (st_q := []) rfl rfl rfl ?_
            refine pm_R_lo pm_M118 (pc_q := 23) rfl rfl rfl ?_
            refine pm_R_br pm_M118 (pc_q := 26) rfl rfl ?_
            refine pm_R_lo pm_M118 (pc_q := 28) rfl rfl rfl ?_
            refine pm_R_br pm_M118 (pc_q := 31) rfl rfl ?_
            refine pm_R_lo pm_M118 (pc_q := 33) rfl rfl rfl ?_
            refine pm_R_br pm_M118 (pc_q := 49) rfl rfl ?_
            refine pm_R_op pm_M118 (pc_q := 50) (st_q := [.int (-1)]) rfl rfl rfl ?_
            exact pm_R_ret pm_M118 (r := some (.int (-1))) rfl rfl (K (-1) (sf_weak sf_kn1 (by decide) (by decide)))
          · have B114 : sf_B 0 2147483647 a2 := sf_leR (Int32.not_lt.mp c112) sf_k0 (sf_any a2)
            refine pm_R_lo pm_M66 (pc_q := 5) rfl rfl rfl ?_
            refine pm_R_lo pm_M66 (pc_q := 6) rfl rfl rfl ?_
            refine pm_R_get pm_M66 (pc_q := 9) (v := .ref 17) rfl rfl T.e16 (by decide) (T.lt (by decide)) rfl rfl ?_
            refine pm_R_get pm_M66 (pc_q := 12) (v := .ref 23) rfl rfl T.e17 (by decide) (T.lt (by decide)) rfl rfl ?_
            refine pm_R_op pm_M66 (pc_q := 13) (st_q := [.int 1, .ref 23, .int a2]) rfl rfl rfl ?_
            refine pm_R_iald pm_M66 (pc_q := 14) (v := z100) rfl e71 (T.lt (by decide)) rfl ez101 rfl ?_
            refine pm_R_icmp pm_M66 (t := 21) (pc_q := 17) rfl rfl rfl (fun c118 => ?_) (fun c118 => ?_)
            · have B119 : sf_B 0 2 a2 := sf_ltL c118 B114 B105
              refine pm_R_lo pm_M66 (pc_q := 22) rfl rfl rfl ?_
              refine pm_R_get pm_M66 (pc_q := 25) (v := .ref 17) rfl rfl T.e16 (by decide) (T.lt (by decide)) rfl rfl ?_
              refine pm_R_get pm_M66 (pc_q := 28) (v := .ref 20) rfl rfl T.e17 (by decide) (T.lt (by decide)) rfl rfl ?_
              refine pm_R_lo pm_M66 (pc_q := 29) rfl rfl rfl ?_
              obtain ⟨l120, hx121⟩ := cl_there1 T e71 e107 ez101 c118 B119 (by decide)
              have hk122 := b108 _ _ hx121
              refine pm_R_aald pm_M66 (pc_q := 30) (v := .ref l120) rfl e107 (by decide) (by decide) (by decide) (T.lt (by decide)) (sf_in B119 (by decide) (by decide)) (by rw [hx121]; rfl) rfl ?_
              refine pm_R_ret pm_M66 (r := some (.ref l120)) rfl rfl ?_
              show pm_R _ 118 19 [.ref 16, .int a0, .int a1, .int a2, .ref l79, .ref l109, pm_no, pm_no, pm_no, pm_no] [.ref l120] _ _
              refine pm_R_lo pm_M118 (pc_q := 21) (ls_q := [.ref 16, .int a0, .int a1, .int a2, .ref l79, .ref l109, .ref l120, pm_no, pm_no, pm_no]) (st_q := []) rfl rfl rfl ?_
              refine pm_R_lo pm_M118 (pc_q := 23) rfl rfl rfl ?_
              refine pm_R_br pm_M118 (pc_q := 26) rfl rfl ?_
              refine pm_R_lo pm_M118 (pc_q := 28) rfl rfl rfl ?_
              refine pm_R_br pm_M118 (pc_q := 31) rfl rfl ?_
              refine pm_R_lo pm_M118 (pc_q := 33) rfl rfl rfl ?_
              refine pm_R_br pm_M118 (pc_q := 36) rfl rfl ?_
              refine pm_R_lo pm_M118 (pc_q := 38) rfl rfl rfl ?_
              obtain ⟨n123, f124, h125, h126, eE127, eE128, b129⟩ := (G.2.2.1 l109 hk111).2
              have kq130 := (G.2.2.1 l109 hk111).1
              refine pm_R_get pm_M118 (pc_q := 41) (v := .int (Int32.ofNat n123)) rfl rfl (T.im hk111 (by decide) (by decide) eE127) (G.ge hk111 (by decide)) (T.al hk111 (by decide)) rfl rfl ?_
              refine pm_R_lo pm_M118 (pc_q := 43) rfl rfl rfl ?_
              obtain ⟨n131, f132, h133, h134, eE135, eE136, b137⟩ := (G.2.2.1 l120 hk122).2
              have kq138 := (G.2.2.1 l120 hk122).1
              refine pm_R_get pm_M118 (pc_q := 46) (v := .int (Int32.ofNat n131)) rfl rfl (T.im hk122 (by decide) (by decide) eE135) (G.ge hk122 (by decide)) (T.al hk122 (by decide)) rfl rfl ?_
              refine pm_R_icmp pm_M118 (t := 51) (pc_q := 49) rfl rfl rfl (fun c139 => ?_) (fun c139 => ?_)
              · refine pm_R_op pm_M118 (pc_q := 52) (st_q := [.int 0]) rfl rfl rfl ?_
                refine pm_R_lo pm_M118 (pc_q := 54) (ls_q := [.ref 16, .int a0, .int a1, .int a2, .ref l79, .ref l109, .ref l120, .int 0, pm_no, pm_no]) (st_q := []) rfl rfl rfl ?_
                refine pm_R_op pm_M118 (pc_q := 55) (st_q := [.int 0]) rfl rfl rfl ?_
                refine pm_R_lo pm_M118 (pc_q := 57) (ls_q := [.ref 16, .int a0, .int a1, .int a2, .ref l79, .ref l109, .ref l120, .int 0, .int 0, pm_no]) (st_q := []) rfl rfl rfl ?_
                have L_438 : ∀ (N : Nat) (x7_438 : Int32) (x8_438 : Int32) (g9_438 : Value), sf_B 0 9 x7_438 → sf_B 0 12 x8_438 → g9_438.category = 1 → (12 - x8_438.toInt).toNat = N → pm_R (d + 1) 118 57 [.ref 16, .int a0, .int a1, .int a2, .ref l79, .ref l109, .ref l120, .int x7_438, .int x8_438, g9_438] [] h Q := by
                  intro N
                  induction N using Nat.strongRecOn with
                  | ind N ih_438 =>
                    intro x7_438 x8_438 g9_438 Bx7_438 Bx8_438 Cg9_438 hN_438
                    refine pm_R_lo pm_M118 (pc_q := 59) rfl rfl rfl ?_
                    refine pm_R_lo pm_M118 (pc_q := 61) rfl rfl rfl ?_
                    refine pm_R_get pm_M118 (pc_q := 64) (v := .int (Int32.ofNat n123)) rfl rfl (T.im hk111 (by decide) (by decide) eE127) (G.ge hk111 (by decide)) (T.al hk111 (by decide)) rfl rfl ?_
                    refine pm_R_icmp pm_M118 (t := 113) (pc_q := 67) rfl rfl rfl (fun c439 => ?_) (fun c439 => ?_)
                    · have B440 : sf_B 1 12 x8_438 := sf_leR c439 (sf_ofB1 h126 h125 (by decide)) Bx8_438
                      refine pm_R_lo pm_M118 (pc_q := 115) rfl rfl rfl ?_
                      exact pm_R_ret pm_M118 (r := some (.int x7_438)) rfl (pm_ret_i _) (K x7_438 (sf_weak Bx7_438 (by decide) (by decide)))
                    · have B441 : sf_B 0 11 x8_438 := sf_ltL (Int32.not_le.mp c439) Bx8_438 (sf_ofB1 h126 h125 (by decide))
                      refine pm_R_lo pm_M118 (pc_q := 69) rfl rfl rfl ?_
                      refine pm_R_lo pm_M118 (pc_q := 71) rfl rfl rfl ?_
                      refine pm_R_get pm_M118 (pc_q := 74) (v := .ref (l109 + 1)) rfl rfl (T.im hk111 (by decide) (by decide) eE127) (G.ge hk111 (by decide)) (T.al hk111 (by decide)) rfl rfl ?_
                      refine pm_R_lo pm_M118 (pc_q := 76) rfl rfl rfl ?_
                      have q445 := cl_in1 (n := n123) (Nat.le_trans h126 (by decide)) (Int32.not_le.mp c439) B441 (by decide)
                      obtain ⟨z442, ez443⟩ : ∃ y, f124 (Int32.toNatClampNeg x8_438) = y := ⟨_, rfl⟩
                      have B444 : sf_B 0 9 z442 := ez443 ▸ b129 _
                      refine pm_R_iald pm_M118 (pc_q := 77) (v := z442) rfl (T.im kq130 (by decide) (by decide) eE128) (T.al kq130 (by decide)) q445.1 ez443 rfl ?_
                      refine pm_R_lo pm_M118 (pc_q := 79) rfl rfl rfl ?_
                      refine pm_R_get pm_M118 (pc_q := 82) (v := .ref (l120 + 1)) rfl rfl (T.im hk122 (by decide) (by decide) eE135) (G.ge hk122 (by decide)) (T.al hk122 (by decide)) rfl rfl ?_
                      refine pm_R_lo pm_M118 (pc_q := 84) rfl rfl rfl ?_
                      have q449 := cl_in1 (n := n131) (Nat.le_trans h134 (by decide)) (Eq.subst (motive := fun z => x8_438 < z) c139 (Int32.not_le.mp c439)) B441 (by decide)
                      obtain ⟨z446, ez447⟩ : ∃ y, f132 (Int32.toNatClampNeg x8_438) = y := ⟨_, rfl⟩
                      have B448 : sf_B 0 9 z446 := ez447 ▸ b137 _
                      refine pm_R_iald pm_M118 (pc_q := 85) (v := z446) rfl (T.im kq138 (by decide) (by decide) eE136) (T.al kq138 (by decide)) q449.1 ez447 rfl ?_
                      obtain ⟨rc450, tc451, rs452, fv453, fw454, fr455, ft456, fn457, h458, h459, B460, eE461, eE462, eE463, eE464, eE465, eE466, b467, b468, b469⟩ := (G.2.1 l79 hk81).2.2.2.2.2
                      have kq470 := G.2.1 l79 hk81
                      refine pm_R_cv pm_M118 (pc_q := 88) (a := l79) (ra := [.int z446, .int z442]) (rest := []) (ls_q := [.ref l79, .int z442, .int z446, pm_no]) rfl rfl (Or.inl rfl) pm_M119 (T.im hk81 (by decide) (by decide) eE461) rfl (G.ge hk81 (by decide)) (T.al hk81 (by decide)) rfl rfl (Nat.le_of_ble_eq_true rfl) rfl rfl ?_
                      refine cl_c119 (d := d + 0) G T hk81 B444 B448 (fun r471 B472 => ?_)
                      show pm_R _ 118 88 [.ref 16, .int a0, .int a1, .int a2, .ref l79, .ref l109, .ref l120, .int x7_438, .int x8_438, g9_438] [.int r471] _ _
                      refine pm_R_lo pm_M118 (pc_q := 90) (ls_q := [.ref 16, .int a0, .int a1, .int a2, .ref l79, .ref l109, .ref l120, .int x7_438, .int x8_438, .int r471]) (st_q := []) rfl rfl rfl ?_
                      refine pm_R_lo pm_M118 (pc_q := 92) rfl rfl rfl ?_
                      refine pm_R_op pm_M118 (pc_q := 93) (st_q := [.int (-1), .int r471]) rfl rfl rfl ?_
                      refine pm_R_icmp pm_M118 (t := 98) (pc_q := 96) rfl rfl rfl (fun c478 => ?_) (fun c478 => ?_)
                      · have B479 : sf_B 0 9 r471 := sf_neL0 c478 sf_kn1 B472
                        refine pm_R_lo pm_M118 (pc_q := 100) rfl rfl rfl ?_
                        refine pm_R_lo pm_M118 (pc_q := 102) rfl rfl rfl ?_
                        refine cl_R_max pm_M118 (pc_q := 105) rfl rfl rfl (by decide) rfl Bx7_438 B479 (fun z480 B481 => ?_)
                        refine pm_R_lo pm_M118 (pc_q := 107) (ls_q := [.ref 16, .int a0, .int a1, .int a2, .ref l79, .ref l109, .ref l120, .int z480, .int x8_438, .int r471]) (st_q := []) rfl rfl rfl ?_
                        refine sf_R_iinc pm_M118 (pc_q := 110) (ls_q := fun z => [.ref 16, .int a0, .int a1, .int a2, .ref l79, .ref l109, .ref l120, .int z480, .int z, .int r471]) rfl B441 rfl (by decide) (by decide) (by decide) (fun _ => rfl) rfl (fun z482 e483 B484 => ?_)
                        show pm_R _ 118 110 [.ref 16, .int a0, .int a1, .int a2, .ref l79, .ref l109, .ref l120, .int z480, .int z482, .int r471] [] _ _
                        refine pm_R_br pm_M118 (pc_q := 57) rfl rfl ?_
                        exact ih_438 _ (sf_up hN_438 e483 B441 (by decide) (by decide)) z480 z482 (.int r471) B481 (sf_weak B484 (by decide) (by decide)) rfl rfl
                      · have B485 : sf_B (-1) (-1) r471 := sf_eqL (Classical.not_not.mp c478) sf_kn1
                        refine pm_R_op pm_M118 (pc_q := 97) (st_q := [.int (-1)]) rfl rfl rfl ?_
                        exact pm_R_ret pm_M118 (r := some (.int (-1))) rfl rfl (K (-1) (sf_weak sf_kn1 (by decide) (by decide)))
                exact L_438 _ 0 0 (pm_no) (sf_weak sf_k0 (by decide) (by decide)) (sf_weak sf_k0 (by decide) (by decide)) rfl rfl
              · skip
                refine pm_R_op pm_M118 (pc_q := 50) (st_q := [.int (-1)]) rfl rfl rfl ?_
                exact pm_R_ret pm_M118 (r := some (.int (-1))) rfl rfl (K (-1) (sf_weak sf_kn1 (by decide) (by decide)))
            · have B486 : sf_B 1 2147483647 a2 := sf_leR (Int32.not_lt.mp c118) B105 B114
              refine pm_R_op pm_M66 (pc_q := 18) (st_q := [.null]) rfl rfl rfl ?_
              refine pm_R_br pm_M66 (pc_q := 30) rfl rfl ?_
              refine pm_R_ret pm_M66 (r := some (.null)) rfl rfl ?_
              show pm_R _ 118 19 [.ref 16, .int a0, .int a1, .int a2, .ref l79, .ref l109, pm_no, pm_no, pm_no, pm_no] [.null] _ _
              refine pm_R_lo pm_M118 (pc_q := 21) (ls_q := [.ref 16, .int a0, .int a1, .int a2, .ref l79, .ref l109, .null, pm_no, pm_no, pm_no]) (st_q := []) rfl rfl rfl ?_
              refine pm_R_lo pm_M118 (pc_q := 23) rfl rfl rfl ?_
              refine pm_R_br pm_M118 (pc_q := 26) rfl rfl ?_
              refine pm_R_lo pm_M118 (pc_q := 28) rfl rfl rfl ?_
              refine pm_R_br pm_M118 (pc_q := 31) rfl rfl ?_
              refine pm_R_lo pm_M118 (pc_q := 33) rfl rfl rfl ?_
              refine pm_R_br pm_M118 (pc_q := 49) rfl rfl ?_
              refine pm_R_op pm_M118 (pc_q := 50) (st_q := [.int (-1)]) rfl rfl rfl ?_
              exact pm_R_ret pm_M118 (r := some (.int (-1))) rfl rfl (K (-1) (sf_weak sf_kn1 (by decide) (by decide)))
        · skip
          refine pm_R_op pm_M66 (pc_q := 18) (st_q := [.null]) rfl rfl rfl ?_
          refine pm_R_br pm_M66 (pc_q := 30) rfl rfl ?_
          refine pm_R_ret pm_M66 (r := some (.null)) rfl rfl ?_
          show pm_R _ 118 12 [.ref 16, .int a0, .int a1, .int a2, .ref l79, pm_no, pm_no, pm_no, pm_no, pm_no] [.null] _ _
          refine pm_R_lo pm_M118 (pc_q := 14) (ls_q := [.ref 16, .int a0, .int a1, .int a2, .ref l79, .null, pm_no, pm_no, pm_no, pm_no]) (st_q := []) rfl rfl rfl ?_
          refine pm_R_lo pm_M118 (pc_q := 15) rfl rfl rfl ?_
          refine pm_R_lo pm_M118 (pc_q := 16) rfl rfl rfl ?_
          refine pm_R_cv pm_M118 (pc_q := 19) (a := 16) (ra := [.int a2]) (rest := []) (ls_q := [.ref 16, .int a2]) rfl rfl (Or.inl rfl) pm_M66 T.e16 rfl (by decide) (T.lt (by decide)) rfl rfl (Nat.le_of_ble_eq_true rfl) rfl rfl ?_
          refine pm_R_lo pm_M66 (pc_q := 1) rfl rfl rfl ?_
          refine pm_R_ifc pm_M66 (t := 17) (pc_q := 4) rfl rfl rfl (fun c487 => ?_) (fun c487 => ?_)
          · have B488 : sf_B (-2147483648) (-1) a2 := sf_ltL c487 (sf_any a2) sf_k0
            refine pm_R_op pm_M66 (pc_q := 18) (st_q := [.null]) rfl rfl rfl ?_
            refine pm_R_br pm_M66 (pc_q := 30) rfl rfl ?_
            refine pm_R_ret pm_M66 (r := some (.null)) rfl rfl ?_
            show pm_R _ 118 19 [.ref 16, .int a0, .int a1, .int a2, .ref l79, .null, pm_no, pm_no, pm_no, pm_no] [.null] _ _
            refine pm_R_lo pm_M118 (pc_q := 21) (ls_q := [.ref 16, .int a0, .int a1, .int a2, .ref l79, .null, .null, pm_no, pm_no, pm_no]) (st_q := []) rfl rfl rfl ?_
            refine pm_R_lo pm_M118 (pc_q := 23) rfl rfl rfl ?_
            refine pm_R_br pm_M118 (pc_q := 26) rfl rfl ?_
            refine pm_R_lo pm_M118 (pc_q := 28) rfl rfl rfl ?_
            refine pm_R_br pm_M118 (pc_q := 49) rfl rfl ?_
            refine pm_R_op pm_M118 (pc_q := 50) (st_q := [.int (-1)]) rfl rfl rfl ?_
            exact pm_R_ret pm_M118 (r := some (.int (-1))) rfl rfl (K (-1) (sf_weak sf_kn1 (by decide) (by decide)))
          · have B489 : sf_B 0 2147483647 a2 := sf_leR (Int32.not_lt.mp c487) sf_k0 (sf_any a2)
            refine pm_R_lo pm_M66 (pc_q := 5) rfl rfl rfl ?_
            refine pm_R_lo pm_M66 (pc_q := 6) rfl rfl rfl ?_
            refine pm_R_get pm_M66 (pc_q := 9) (v := .ref 17) rfl rfl T.e16 (by decide) (T.lt (by decide)) rfl rfl ?_
            refine pm_R_get pm_M66 (pc_q := 12) (v := .ref 23) rfl rfl T.e17 (by decide) (T.lt (by decide)) rfl rfl ?_
            refine pm_R_op pm_M66 (pc_q := 13) (st_q := [.int 1, .ref 23, .int a2]) rfl rfl rfl ?_
            refine pm_R_iald pm_M66 (pc_q := 14) (v := z100) rfl e71 (T.lt (by decide)) rfl ez101 rfl ?_
            refine pm_R_icmp pm_M66 (t := 21) (pc_q := 17) rfl rfl rfl (fun c493 => ?_) (fun c493 => ?_)
            · have B494 : sf_B 0 2 a2 := sf_ltL c493 B489 B102
              have B495 : sf_B 1 3 z100 := sf_ltR c493 B489 B102
              refine pm_R_lo pm_M66 (pc_q := 22) rfl rfl rfl ?_
              refine pm_R_get pm_M66 (pc_q := 25) (v := .ref 17) rfl rfl T.e16 (by decide) (T.lt (by decide)) rfl rfl ?_
              refine pm_R_get pm_M66 (pc_q := 28) (v := .ref 20) rfl rfl T.e17 (by decide) (T.lt (by decide)) rfl rfl ?_
              refine pm_R_lo pm_M66 (pc_q := 29) rfl rfl rfl ?_
              obtain ⟨f496, e497, b498⟩ := T.C 20 (by decide) (by decide)
              obtain ⟨l499, hx500⟩ := cl_there1 T e71 e497 ez101 c493 B494 (by decide)
              have hk501 := b498 _ _ hx500
              refine pm_R_aald pm_M66 (pc_q := 30) (v := .ref l499) rfl e497 (by decide) (by decide) (by decide) (T.lt (by decide)) (sf_in B494 (by decide) (by decide)) (by rw [hx500]; rfl) rfl ?_
              refine pm_R_ret pm_M66 (r := some (.ref l499)) rfl rfl ?_
              show pm_R _ 118 19 [.ref 16, .int a0, .int a1, .int a2, .ref l79, .null, pm_no, pm_no, pm_no, pm_no] [.ref l499] _ _
              refine pm_R_lo pm_M118 (pc_q := 21) (ls_q := [.ref 16, .int a0, .int a1, .int a2, .ref l79, .null, .ref l499, pm_no, pm_no, pm_no]) (st_q := []) rfl rfl rfl ?_
              refine pm_R_lo pm_M118 (pc_q := 23) rfl rfl rfl ?_
              refine pm_R_br pm_M118 (pc_q := 26) rfl rfl ?_
              refine pm_R_lo pm_M118 (pc_q := 28) rfl rfl rfl ?_
              refine pm_R_br pm_M118 (pc_q := 49) rfl rfl ?_
              refine pm_R_op pm_M118 (pc_q := 50) (st_q := [.int (-1)]) rfl rfl rfl ?_
              exact pm_R_ret pm_M118 (r := some (.int (-1))) rfl rfl (K (-1) (sf_weak sf_kn1 (by decide) (by decide)))
            · skip
              refine pm_R_op pm_M66 (pc_q := 18) (st_q := [.null]) rfl rfl rfl ?_
              refine pm_R_br pm_M66 (pc_q := 30) rfl rfl ?_
              refine pm_R_ret pm_M66 (r := some (.null)) rfl rfl ?_
              show pm_R _ 118 19 [.ref 16, .int a0, .int a1, .int a2, .ref l79, .null, pm_no, pm_no, pm_no, pm_no] [.null] _ _
              refine pm_R_lo pm_M118 (pc_q := 21) (ls_q := [.ref 16, .int a0, .int a1, .int a2, .ref l79, .null, .null, pm_no, pm_no, pm_no]) (st_q := []) rfl rfl rfl ?_
              refine pm_R_lo pm_M118 (pc_q := 23) rfl rfl rfl ?_
              refine pm_R_br pm_M118 (pc_q := 26) rfl rfl ?_
              refine pm_R_lo pm_M118 (pc_q := 28) rfl rfl rfl ?_
              refine pm_R_br pm_M118 (pc_q := 49) rfl rfl ?_
              refine pm_R_op pm_M118 (pc_q := 50) (st_q := [.int (-1)]) rfl rfl rfl ?_
              exact pm_R_ret pm_M118 (r := some (.int (-1))) rfl rfl (K (-1) (sf_weak sf_kn1 (by decide) (by decide)))
    · skip
      refine pm_R_op pm_M62 (pc_q := 18) (st_q := [.null]) rfl rfl rfl ?_
      refine pm_R_br pm_M62 (pc_q := 30) rfl rfl ?_
      refine pm_R_ret pm_M62 (r := some (.null)) rfl rfl ?_
      show pm_R _ 118 5 [.ref 16, .int a0, .int a1, .int a2, pm_no, pm_no, pm_no, pm_no, pm_no, pm_no] [.null] _ _
      refine pm_R_lo pm_M118 (pc_q := 7) (ls_q := [.ref 16, .int a0, .int a1, .int a2, .null, pm_no, pm_no, pm_no, pm_no, pm_no]) (st_q := []) rfl rfl rfl ?_
      refine pm_R_lo pm_M118 (pc_q := 8) rfl rfl rfl ?_
      refine pm_R_lo pm_M118 (pc_q := 9) rfl rfl rfl ?_
      refine pm_R_cv pm_M118 (pc_q := 12) (a := 16) (ra := [.int a1]) (rest := []) (ls_q := [.ref 16, .int a1]) rfl rfl (Or.inl rfl) pm_M66 T.e16 rfl (by decide) (T.lt (by decide)) rfl rfl (Nat.le_of_ble_eq_true rfl) rfl rfl ?_
      refine pm_R_lo pm_M66 (pc_q := 1) rfl rfl rfl ?_
      refine pm_R_ifc pm_M66 (t := 17) (pc_q := 4) rfl rfl rfl (fun c502 => ?_) (fun c502 => ?_)
      · have B503 : sf_B (-2147483648) (-1) a1 := sf_ltL c502 (sf_any a1) sf_k0
        refine pm_R_op pm_M66 (pc_q := 18) (st_q := [.null]) rfl rfl rfl ?_
        refine pm_R_br pm_M66 (pc_q := 30) rfl rfl ?_
        refine pm_R_ret pm_M66 (r := some (.null)) rfl rfl ?_
        show pm_R _ 118 12 [.ref 16, .int a0, .int a1, .int a2, .null, pm_no, pm_no, pm_no, pm_no, pm_no] [.null] _ _
        refine pm_R_lo pm_M118 (pc_q := 14) (ls_q := [.ref 16, .int a0, .int a1, .int a2, .null, .null, pm_no, pm_no, pm_no, pm_no]) (st_q := []) rfl rfl rfl ?_
        refine pm_R_lo pm_M118 (pc_q := 15) rfl rfl rfl ?_
        refine pm_R_lo pm_M118 (pc_q := 16) rfl rfl rfl ?_
        refine pm_R_cv pm_M118 (pc_q := 19) (a := 16) (ra := [.int a2]) (rest := []) (ls_q := [.ref 16, .int a2]) rfl rfl (Or.inl rfl) pm_M66 T.e16 rfl (by decide) (T.lt (by decide)) rfl rfl (Nat.le_of_ble_eq_true rfl) rfl rfl ?_
        refine pm_R_lo pm_M66 (pc_q := 1) rfl rfl rfl ?_
        refine pm_R_ifc pm_M66 (t := 17) (pc_q := 4) rfl rfl rfl (fun c504 => ?_) (fun c504 => ?_)
        · have B505 : sf_B (-2147483648) (-1) a2 := sf_ltL c504 (sf_any a2) sf_k0
          refine pm_R_op pm_M66 (pc_q := 18) (st_q := [.null]) rfl rfl rfl ?_
          refine pm_R_br pm_M66 (pc_q := 30) rfl rfl ?_
          refine pm_R_ret pm_M66 (r := some (.null)) rfl rfl ?_
          show pm_R _ 118 19 [.ref 16, .int a0, .int a1, .int a2, .null, .null, pm_no, pm_no, pm_no, pm_no] [.null] _ _
          refine pm_R_lo pm_M118 (pc_q := 21) (ls_q := [.ref 16, .int a0, .int a1, .int a2, .null, .null, .null, pm_no, pm_no, pm_no]) (st_q := []) rfl rfl rfl ?_
          refine pm_R_lo pm_M118 (pc_q := 23) rfl rfl rfl ?_
          refine pm_R_br pm_M118 (pc_q := 49) rfl rfl ?_
          refine pm_R_op pm_M118 (pc_q := 50) (st_q := [.int (-1)]) rfl rfl rfl ?_
          exact pm_R_ret pm_M118 (r := some (.int (-1))) rfl rfl (K (-1) (sf_weak sf_kn1 (by decide) (by decide)))
        · have B506 : sf_B 0 2147483647 a2 := sf_leR (Int32.not_lt.mp c504) sf_k0 (sf_any a2)
          refine pm_R_lo pm_M66 (pc_q := 5) rfl rfl rfl ?_
          refine pm_R_lo pm_M66 (pc_q := 6) rfl rfl rfl ?_
          refine pm_R_get pm_M66 (pc_q := 9) (v := .ref 17) rfl rfl T.e16 (by decide) (T.lt (by decide)) rfl rfl ?_
          refine pm_R_get pm_M66 (pc_q := 12) (v := .ref 23) rfl rfl T.e17 (by decide) (T.lt (by decide)) rfl rfl ?_
          refine pm_R_op pm_M66 (pc_q := 13) (st_q := [.int 1, .ref 23, .int a2]) rfl rfl rfl ?_
          obtain ⟨z507, ez508⟩ : ∃ y, f70 (Int32.toNatClampNeg 1) = y := ⟨_, rfl⟩
          have B509 : sf_B 0 3 z507 := ez508 ▸ (b72 1)
          refine pm_R_iald pm_M66 (pc_q := 14) (v := z507) rfl e71 (T.lt (by decide)) rfl ez508 rfl ?_
          refine pm_R_icmp pm_M66 (t := 21) (pc_q := 17) rfl rfl rfl (fun c510 => ?_) (fun c510 => ?_)
          · have B511 : sf_B 0 2 a2 := sf_ltL c510 B506 B509
            have B512 : sf_B 1 3 z507 := sf_ltR c510 B506 B509
            refine pm_R_lo pm_M66 (pc_q := 22) rfl rfl rfl ?_
            refine pm_R_get pm_M66 (pc_q := 25) (v := .ref 17) rfl rfl T.e16 (by decide) (T.lt (by decide)) rfl rfl ?_
            refine pm_R_get pm_M66 (pc_q := 28) (v := .ref 20) rfl rfl T.e17 (by decide) (T.lt (by decide)) rfl rfl ?_
            refine pm_R_lo pm_M66 (pc_q := 29) rfl rfl rfl ?_
            obtain ⟨f513, e514, b515⟩ := T.C 20 (by decide) (by decide)
            obtain ⟨l516, hx517⟩ := cl_there1 T e71 e514 ez508 c510 B511 (by decide)
            have hk518 := b515 _ _ hx517
            refine pm_R_aald pm_M66 (pc_q := 30) (v := .ref l516) rfl e514 (by decide) (by decide) (by decide) (T.lt (by decide)) (sf_in B511 (by decide) (by decide)) (by rw [hx517]; rfl) rfl ?_
            refine pm_R_ret pm_M66 (r := some (.ref l516)) rfl rfl ?_
            show pm_R _ 118 19 [.ref 16, .int a0, .int a1, .int a2, .null, .null, pm_no, pm_no, pm_no, pm_no] [.ref l516] _ _
            refine pm_R_lo pm_M118 (pc_q := 21) (ls_q := [.ref 16, .int a0, .int a1, .int a2, .null, .null, .ref l516, pm_no, pm_no, pm_no]) (st_q := []) rfl rfl rfl ?_
            refine pm_R_lo pm_M118 (pc_q := 23) rfl rfl rfl ?_
            refine pm_R_br pm_M118 (pc_q := 49) rfl rfl ?_
            refine pm_R_op pm_M118 (pc_q := 50) (st_q := [.int (-1)]) rfl rfl rfl ?_
            exact pm_R_ret pm_M118 (r := some (.int (-1))) rfl rfl (K (-1) (sf_weak sf_kn1 (by decide) (by decide)))
          · skip
            refine pm_R_op pm_M66 (pc_q := 18) (st_q := [.null]) rfl rfl rfl ?_
            refine pm_R_br pm_M66 (pc_q := 30) rfl rfl ?_
            refine pm_R_ret pm_M66 (r := some (.null)) rfl rfl ?_
            show pm_R _ 118 19 [.ref 16, .int a0, .int a1, .int a2, .null, .null, pm_no, pm_no, pm_no, pm_no] [.null] _ _
            refine pm_R_lo pm_M118 (pc_q := 21) (ls_q := [.ref 16, .int a0, .int a1, .int a2, .null, .null, .null, pm_no, pm_no, pm_no]) (st_q := []) rfl rfl rfl ?_
            refine pm_R_lo pm_M118 (pc_q := 23) rfl rfl rfl ?_
            refine pm_R_br pm_M118 (pc_q := 49) rfl rfl ?_
            refine pm_R_op pm_M118 (pc_q := 50) (st_q := [.int (-1)]) rfl rfl rfl ?_
            exact pm_R_ret pm_M118 (r := some (.int (-1))) rfl rfl (K (-1) (sf_weak sf_kn1 (by decide) (by decide)))
      · have B519 : sf_B 0 2147483647 a1 := sf_leR (Int32.not_lt.mp c502) sf_k0 (sf_any a1)
        refine pm_R_lo pm_M66 (pc_q := 5) rfl rfl rfl ?_
        refine pm_R_lo pm_M66 (pc_q := 6) rfl rfl rfl ?_
        refine pm_R_get pm_M66 (pc_q := 9) (v := .ref 17) rfl rfl T.e16 (by decide) (T.lt (by decide)) rfl rfl ?_
        refine pm_R_get pm_M66 (pc_q := 12) (v := .ref 23) rfl rfl T.e17 (by decide) (T.lt (by decide)) rfl rfl ?_
        refine pm_R_op pm_M66 (pc_q := 13) (st_q := [.int 1, .ref 23, .int a1]) rfl rfl rfl ?_
        obtain ⟨z520, ez521⟩ : ∃ y, f70 (Int32.toNatClampNeg 1) = y := ⟨_, rfl⟩
        have B522 : sf_B 0 3 z520 := ez521 ▸ (b72 1)
        refine pm_R_iald pm_M66 (pc_q := 14) (v := z520) rfl e71 (T.lt (by decide)) rfl ez521 rfl ?_
        refine pm_R_icmp pm_M66 (t := 21) (pc_q := 17) rfl rfl rfl (fun c523 => ?_) (fun c523 => ?_)
        · have B524 : sf_B 0 2 a1 := sf_ltL c523 B519 B522
          have B525 : sf_B 1 3 z520 := sf_ltR c523 B519 B522
          refine pm_R_lo pm_M66 (pc_q := 22) rfl rfl rfl ?_
          refine pm_R_get pm_M66 (pc_q := 25) (v := .ref 17) rfl rfl T.e16 (by decide) (T.lt (by decide)) rfl rfl ?_
          refine pm_R_get pm_M66 (pc_q := 28) (v := .ref 20) rfl rfl T.e17 (by decide) (T.lt (by decide)) rfl rfl ?_
          refine pm_R_lo pm_M66 (pc_q := 29) rfl rfl rfl ?_
          obtain ⟨f526, e527, b528⟩ := T.C 20 (by decide) (by decide)
          obtain ⟨l529, hx530⟩ := cl_there1 T e71 e527 ez521 c523 B524 (by decide)
          have hk531 := b528 _ _ hx530
          refine pm_R_aald pm_M66 (pc_q := 30) (v := .ref l529) rfl e527 (by decide) (by decide) (by decide) (T.lt (by decide)) (sf_in B524 (by decide) (by decide)) (by rw [hx530]; rfl) rfl ?_
          refine pm_R_ret pm_M66 (r := some (.ref l529)) rfl rfl ?_
          show pm_R _ 118 12 [.ref 16, .int a0, .int a1, .int a2, .null, pm_no, pm_no, pm_no, pm_no, pm_no] [.ref l529] _ _
          refine pm_R_lo pm_M118 (pc_q := 14) (ls_q := [.ref 16, .int a0, .int a1, .int a2, .null, .ref l529, pm_no, pm_no, pm_no, pm_no]) (st_q := []) rfl rfl rfl ?_
          refine pm_R_lo pm_M118 (pc_q := 15) rfl rfl rfl ?_
          refine pm_R_lo pm_M118 (pc_q := 16) rfl rfl rfl ?_
          refine pm_R_cv pm_M118 (pc_q := 19) (a := 16) (ra := [.int a2]) (rest := []) (ls_q := [.ref 16, .int a2]) rfl rfl (Or.inl rfl) pm_M66 T.e16 rfl (by decide) (T.lt (by decide)) rfl rfl (Nat.le_of_ble_eq_true rfl) rfl rfl ?_
          refine pm_R_lo pm_M66 (pc_q := 1) rfl rfl rfl ?_
          refine pm_R_ifc pm_M66 (t := 17) (pc_q := 4) rfl rfl rfl (fun c532 => ?_) (fun c532 => ?_)
          · have B533 : sf_B (-2147483648) (-1) a2 := sf_ltL c532 (sf_any a2) sf_k0
            refine pm_R_op pm_M66 (pc_q := 18) (st_q := [.null]) rfl rfl rfl ?_
            refine pm_R_br pm_M66 (pc_q := 30) rfl rfl ?_
            refine pm_R_ret pm_M66 (r := some (.null)) rfl rfl ?_
            show pm_R _ 118 19 [.ref 16, .int a0, .int a1, .int a2, .null, .ref l529, pm_no, pm_no, pm_no, pm_no] [.null] _ _
            refine pm_R_lo pm_M118 (pc_q := 21) (ls_q := [.ref 16, .int a0, .int a1, .int a2, .null, .ref l529, .null, pm_no, pm_no, pm_no]) (st_q := []) rfl rfl rfl ?_
            refine pm_R_lo pm_M118 (pc_q := 23) rfl rfl rfl ?_
            refine pm_R_br pm_M118 (pc_q := 49) rfl rfl ?_
            refine pm_R_op pm_M118 (pc_q := 50) (st_q := [.int (-1)]) rfl rfl rfl ?_
            exact pm_R_ret pm_M118 (r := some (.int (-1))) rfl rfl (K (-1) (sf_weak sf_kn1 (by decide) (by decide)))
          · have B534 : sf_B 0 2147483647 a2 := sf_leR (Int32.not_lt.mp c532) sf_k0 (sf_any a2)
            refine pm_R_lo pm_M66 (pc_q := 5) rfl rfl rfl ?_
            refine pm_R_lo pm_M66 (pc_q := 6) rfl rfl rfl ?_
            refine pm_R_get pm_M66 (pc_q := 9) (v := .ref 17) rfl rfl T.e16 (by decide) (T.lt (by decide)) rfl rfl ?_
            refine pm_R_get pm_M66 (pc_q := 12) (v := .ref 23) rfl rfl T.e17 (by decide) (T.lt (by decide)) rfl rfl ?_
            refine pm_R_op pm_M66 (pc_q := 13) (st_q := [.int 1, .ref 23, .int a2]) rfl rfl rfl ?_
            refine pm_R_iald pm_M66 (pc_q := 14) (v := z520) rfl e71 (T.lt (by decide)) rfl ez521 rfl ?_
            refine pm_R_icmp pm_M66 (t := 21) (pc_q := 17) rfl rfl rfl (fun c538 => ?_) (fun c538 => ?_)
            · have B539 : sf_B 0 2 a2 := sf_ltL c538 B534 B525
              refine pm_R_lo pm_M66 (pc_q := 22) rfl rfl rfl ?_
              refine pm_R_get pm_M66 (pc_q := 25) (v := .ref 17) rfl rfl T.e16 (by decide) (T.lt (by decide)) rfl rfl ?_
              refine pm_R_get pm_M66 (pc_q := 28) (v := .ref 20) rfl rfl T.e17 (by decide) (T.lt (by decide)) rfl rfl ?_
              refine pm_R_lo pm_M66 (pc_q := 29) rfl rfl rfl ?_
              obtain ⟨l540, hx541⟩ := cl_there1 T e71 e527 ez521 c538 B539 (by decide)
              have hk542 := b528 _ _ hx541
              refine pm_R_aald pm_M66 (pc_q := 30) (v := .ref l540) rfl e527 (by decide) (by decide) (by decide) (T.lt (by decide)) (sf_in B539 (by decide) (by decide)) (by rw [hx541]; rfl) rfl ?_
              refine pm_R_ret pm_M66 (r := some (.ref l540)) rfl rfl ?_
              show pm_R _ 118 19 [.ref 16, .int a0, .int a1, .int a2, .null, .ref l529, pm_no, pm_no, pm_no, pm_no] [.ref l540] _ _
              refine pm_R_lo pm_M118 (pc_q := 21) (ls_q := [.ref 16, .int a0, .int a1, .int a2, .null, .ref l529, .ref l540, pm_no, pm_no, pm_no]) (st_q := []) rfl rfl rfl ?_
              refine pm_R_lo pm_M118 (pc_q := 23) rfl rfl rfl ?_
              refine pm_R_br pm_M118 (pc_q := 49) rfl rfl ?_
              refine pm_R_op pm_M118 (pc_q := 50) (st_q := [.int (-1)]) rfl rfl rfl ?_
              exact pm_R_ret pm_M118 (r := some (.int (-1))) rfl rfl (K (-1) (sf_weak sf_kn1 (by decide) (by decide)))
            · have B543 : sf_B 1 2147483647 a2 := sf_leR (Int32.not_lt.mp c538) B525 B534
              refine pm_R_op pm_M66 (pc_q := 18) (st_q := [.null]) rfl rfl rfl ?_
              refine pm_R_br pm_M66 (pc_q := 30) rfl rfl ?_
              refine pm_R_ret pm_M66 (r := some (.null)) rfl rfl ?_
              show pm_R _ 118 19 [.ref 16, .int a0, .int a1, .int a2, .null, .ref l529, pm_no, pm_no, pm_no, pm_no] [.null] _ _
              refine pm_R_lo pm_M118 (pc_q := 21) (ls_q := [.ref 16, .int a0, .int a1, .int a2, .null, .ref l529, .null, pm_no, pm_no, pm_no]) (st_q := []) rfl rfl rfl ?_
              refine pm_R_lo pm_M118 (pc_q := 23) rfl rfl rfl ?_
              refine pm_R_br pm_M118 (pc_q := 49) rfl rfl ?_
              refine pm_R_op pm_M118 (pc_q := 50) (st_q := [.int (-1)]) rfl rfl rfl ?_
              exact pm_R_ret pm_M118 (r := some (.int (-1))) rfl rfl (K (-1) (sf_weak sf_kn1 (by decide) (by decide)))
        · skip
          refine pm_R_op pm_M66 (pc_q := 18) (st_q := [.null]) rfl rfl rfl ?_
          refine pm_R_br pm_M66 (pc_q := 30) rfl rfl ?_
          refine pm_R_ret pm_M66 (r := some (.null)) rfl rfl ?_
          show pm_R _ 118 12 [.ref 16, .int a0, .int a1, .int a2, .null, pm_no, pm_no, pm_no, pm_no, pm_no] [.null] _ _
          refine pm_R_lo pm_M118 (pc_q := 14) (ls_q := [.ref 16, .int a0, .int a1, .int a2, .null, .null, pm_no, pm_no, pm_no, pm_no]) (st_q := []) rfl rfl rfl ?_
          refine pm_R_lo pm_M118 (pc_q := 15) rfl rfl rfl ?_
          refine pm_R_lo pm_M118 (pc_q := 16) rfl rfl rfl ?_
          refine pm_R_cv pm_M118 (pc_q := 19) (a := 16) (ra := [.int a2]) (rest := []) (ls_q := [.ref 16, .int a2]) rfl rfl (Or.inl rfl) pm_M66 T.e16 rfl (by decide) (T.lt (by decide)) rfl rfl (Nat.le_of_ble_eq_true rfl) rfl rfl ?_
          refine pm_R_lo pm_M66 (pc_q := 1) rfl rfl rfl ?_
          refine pm_R_ifc pm_M66 (t := 17) (pc_q := 4) rfl rfl rfl (fun c544 => ?_) (fun c544 => ?_)
          · have B545 : sf_B (-2147483648) (-1) a2 := sf_ltL c544 (sf_any a2) sf_k0
            refine pm_R_op pm_M66 (pc_q := 18) (st_q := [.null]) rfl rfl rfl ?_
            refine pm_R_br pm_M66 (pc_q := 30) rfl rfl ?_
            refine pm_R_ret pm_M66 (r := some (.null)) rfl rfl ?_
            show pm_R _ 118 19 [.ref 16, .int a0, .int a1, .int a2, .null, .null, pm_no, pm_no, pm_no, pm_no] [.null] _ _
            refine pm_R_lo pm_M118 (pc_q := 21) (ls_q := [.ref 16, .int a0, .int a1, .int a2, .null, .null, .null, pm_no, pm_no, pm_no]) (st_q := []) rfl rfl rfl ?_
            refine pm_R_lo pm_M118 (pc_q := 23) rfl rfl rfl ?_
            refine pm_R_br pm_M118 (pc_q := 49) rfl rfl ?_
            refine pm_R_op pm_M118 (pc_q := 50) (st_q := [.int (-1)]) rfl rfl rfl ?_
            exact pm_R_ret pm_M118 (r := some (.int (-1))) rfl rfl (K (-1) (sf_weak sf_kn1 (by decide) (by decide)))
          · have B546 : sf_B 0 2147483647 a2 := sf_leR (Int32.not_lt.mp c544) sf_k0 (sf_any a2)
            refine pm_R_lo pm_M66 (pc_q := 5) rfl rfl rfl ?_
            refine pm_R_lo pm_M66 (pc_q := 6) rfl rfl rfl ?_
            refine pm_R_get pm_M66 (pc_q := 9) (v := .ref 17) rfl rfl T.e16 (by decide) (T.lt (by decide)) rfl rfl ?_
            refine pm_R_get pm_M66 (pc_q := 12) (v := .ref 23) rfl rfl T.e17 (by decide) (T.lt (by decide)) rfl rfl ?_
            refine pm_R_op pm_M66 (pc_q := 13) (st_q := [.int 1, .ref 23, .int a2]) rfl rfl rfl ?_
            refine pm_R_iald pm_M66 (pc_q := 14) (v := z520) rfl e71 (T.lt (by decide)) rfl ez521 rfl ?_
            refine pm_R_icmp pm_M66 (t := 21) (pc_q := 17) rfl rfl rfl (fun c550 => ?_) (fun c550 => ?_)
            · have B551 : sf_B 0 2 a2 := sf_ltL c550 B546 B522
              have B552 : sf_B 1 3 z520 := sf_ltR c550 B546 B522
              refine pm_R_lo pm_M66 (pc_q := 22) rfl rfl rfl ?_
              refine pm_R_get pm_M66 (pc_q := 25) (v := .ref 17) rfl rfl T.e16 (by decide) (T.lt (by decide)) rfl rfl ?_
              refine pm_R_get pm_M66 (pc_q := 28) (v := .ref 20) rfl rfl T.e17 (by decide) (T.lt (by decide)) rfl rfl ?_
              refine pm_R_lo pm_M66 (pc_q := 29) rfl rfl rfl ?_
              obtain ⟨f553, e554, b555⟩ := T.C 20 (by decide) (by decide)
              obtain ⟨l556, hx557⟩ := cl_there1 T e71 e554 ez521 c550 B551 (by decide)
              have hk558 := b555 _ _ hx557
              refine pm_R_aald pm_M66 (pc_q := 30) (v := .ref l556) rfl e554 (by decide) (by decide) (by decide) (T.lt (by decide)) (sf_in B551 (by decide) (by decide)) (by rw [hx557]; rfl) rfl ?_
              refine pm_R_ret pm_M66 (r := some (.ref l556)) rfl rfl ?_
              show pm_R _ 118 19 [.ref 16, .int a0, .int a1, .int a2, .null, .null, pm_no, pm_no, pm_no, pm_no] [.ref l556] _ _
              refine pm_R_lo pm_M118 (pc_q := 21) (ls_q := [.ref 16, .int a0, .int a1, .int a2, .null, .null, .ref l556, pm_no, pm_no, pm_no]) (st_q := []) rfl rfl rfl ?_
              refine pm_R_lo pm_M118 (pc_q := 23) rfl rfl rfl ?_
              refine pm_R_br pm_M118 (pc_q := 49) rfl rfl ?_
              refine pm_R_op pm_M118 (pc_q := 50) (st_q := [.int (-1)]) rfl rfl rfl ?_
              exact pm_R_ret pm_M118 (r := some (.int (-1))) rfl rfl (K (-1) (sf_weak sf_kn1 (by decide) (by decide)))
            · skip
              refine pm_R_op pm_M66 (pc_q := 18) (st_q := [.null]) rfl rfl rfl ?_
              refine pm_R_br pm_M66 (pc_q := 30) rfl rfl ?_
              refine pm_R_ret pm_M66 (r := some (.null)) rfl rfl ?_
              show pm_R _ 118 19 [.ref 16, .int a0, .int a1, .int a2, .null, .null, pm_no, pm_no, pm_no, pm_no] [.null] _ _
              refine pm_R_lo pm_M118 (pc_q := 21) (ls_q := [.ref 16, .int a0, .int a1, .int a2, .null, .null, .null, pm_no, pm_no, pm_no]) (st_q := []) rfl rfl rfl ?_
              refine pm_R_lo pm_M118 (pc_q := 23) rfl rfl rfl ?_
              refine pm_R_br pm_M118 (pc_q := 49) rfl rfl ?_
              refine pm_R_op pm_M118 (pc_q := 50) (st_q := [.int (-1)]) rfl rfl rfl ?_
              exact pm_R_ret pm_M118 (r := some (.int (-1))) rfl rfl (K (-1) (sf_weak sf_kn1 (by decide) (by decide)))
