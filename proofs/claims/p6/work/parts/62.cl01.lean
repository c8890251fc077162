set_option maxRecDepth 100000 in
set_option maxHeartbeats 4000000 in
/-- SilentTable.ways -/
theorem cl_c81_x {d : Nat} {ck : cl_K} {E : Nat → pm_E} {m : Nat → Int32} {o : Nat → Option Nat} {h : pm_H} {Q : Option Value → pm_H → Prop} {a0 : Int32} {a1 : Int32} {a2 : Int32} (G : cl_G ck E) (T : cl_T ck E m o h)  (K : ∀ (r : Int64) (m' : Nat → Int32) (o' : Nat → Option Nat) (h' : pm_H), cl_T ck E m' o' h' → cl_F ck [16, 33, 34] 2 23403 h h' → rf_W [] m m' → cl_p0 (o' 0) + h'.2.1 ≤ cl_p0 (o 0) + h.2.1 → Q (some (.long r)) h') (K2 : ∀ (r : Int64) (m' : Nat → Int32) (o' : Nat → Option Nat) (ck' : cl_K) (h' : pm_H), (∀ b, b < h.1 → ck' b = ck b) → cl_G ck' E → cl_T ck' E m' o' h' → cl_F ck [16, 33, 34] 2 23403 h h' → rf_W [] m m' → cl_p0 (o' 0) + h'.2.1 ≤ cl_p0 (o 0) + h.2.1 → Q (some (.long r)) h') : pm_R (d + 4) 81 0 [.ref 16, .int a0, .int a1, .int a2, pm_no, pm_no] [] h Q := by
  refine pm_R_lo pm_M81 (pc' := 1) rfl rfl rfl ?_
  refine pm_R_lo pm_M81 (pc' := 2) rfl rfl rfl ?_
  refine pm_R_cv pm_M81 (pc' := 5) (a := 16) (ra := [.int a0]) (rest := []) (ls' := [.ref 16, .int a0]) rfl rfl (Or.inl rfl) pm_M62 T.e16 rfl (by decide) (T.lt (by decide)) rfl rfl (Nat.le_of_ble_eq_true rfl) rfl rfl ?_
  refine pm_R_lo pm_M62 (pc' := 1) rfl rfl rfl ?_
  refine pm_R_ifc pm_M62 (t := 17) (pc' := 4) rfl rfl rfl (fun c1 => ?_) (fun c1 => ?_)
  · have B2 : sf_B (-2147483648) (-1) a0 := sf_ltL c1 (sf_any a0) sf_k0
    refine pm_R_op pm_M62 (pc' := 18) (st' := [.null]) rfl rfl rfl ?_
    refine pm_R_br pm_M62 (pc' := 30) rfl rfl ?_
    refine pm_R_ret pm_M62 (r := some (.null)) rfl rfl ?_
    show pm_R _ 81 5 [.ref 16, .int a0, .int a1, .int a2, pm_no, pm_no] [.null] _ _
    refine pm_R_lo pm_M81 (pc' := 7) (ls' := [.ref 16, .int a0, .int a1, .int a2, .null, pm_no]) (st' := []) rfl rfl rfl ?_
    refine pm_R_lo pm_M81 (pc' := 8) rfl rfl rfl ?_
    refine pm_R_lo pm_M81 (pc' := 9) rfl rfl rfl ?_
    refine pm_R_cv pm_M81 (pc' := 12) (a := 16) (ra := [.int a1]) (rest := []) (ls' := [.ref 16, .int a1]) rfl rfl (Or.inl rfl) pm_M66 T.e16 rfl (by decide) (T.lt (by decide)) rfl rfl (Nat.le_of_ble_eq_true rfl) rfl rfl ?_
    refine pm_R_lo pm_M66 (pc' := 1) rfl rfl rfl ?_
    refine pm_R_ifc pm_M66 (t := 17) (pc' := 4) rfl rfl rfl (fun c3 => ?_) (fun c3 => ?_)
    · have B4 : sf_B (-2147483648) (-1) a1 := sf_ltL c3 (sf_any a1) sf_k0
      refine pm_R_op pm_M66 (pc' := 18) (st' := [.null]) rfl rfl rfl ?_
      refine pm_R_br pm_M66 (pc' := 30) rfl rfl ?_
      refine pm_R_ret pm_M66 (r := some (.null)) rfl rfl ?_
      show pm_R _ 81 12 [.ref 16, .int a0, .int a1, .int a2, .null, pm_no] [.null] _ _
      refine pm_R_lo pm_M81 (pc' := 14) (ls' := [.ref 16, .int a0, .int a1, .int a2, .null, .null]) (st' := []) rfl rfl rfl ?_
      refine pm_R_lo pm_M81 (pc' := 16) rfl rfl rfl ?_
      refine pm_R_br pm_M81 (pc' := 31) rfl rfl ?_
      refine pm_R_ldc2 pm_M81 (pc' := 34) rfl rfl rfl ?_
      exact pm_R_ret pm_M81 (r := some (.long (-1))) rfl rfl (K (-1) m o h T ((cl_F.refl (ck := ck) (A := [16, 33, 34]) (n := 0) (s := 0) T.1).weak (by decide) (by decide)) (rf_W.refl [] m) (Nat.add_le_add_left ((cl_F.refl (ck := ck) (A := [16, 33, 34]) (n := 0) (s := 0) T.1).2.2.2.1) _))
    · have B5 : sf_B 0 2147483647 a1 := sf_leR (Int32.not_lt.mp c3) sf_k0 (sf_any a1)
      refine pm_R_lo pm_M66 (pc' := 5) rfl rfl rfl ?_
      refine pm_R_lo pm_M66 (pc' := 6) rfl rfl rfl ?_
      refine pm_R_get pm_M66 (pc' := 9) (v := .ref 17) rfl rfl T.e16 (by decide) (T.lt (by decide)) rfl rfl ?_
      refine pm_R_get pm_M66 (pc' := 12) (v := .ref 23) rfl rfl T.e17 (by decide) (T.lt (by decide)) rfl rfl ?_
      refine pm_R_op pm_M66 (pc' := 13) (st' := [.int 1, .ref 23, .int a1]) rfl rfl rfl ?_
      obtain ⟨f9, e10, b11⟩ := T.C 23 (by decide) (by decide)
      obtain ⟨z6, ez7⟩ : ∃ y, f9 (Int32.toNatClampNeg 1) = y := ⟨_, rfl⟩
      have B8 : sf_B 0 3 z6 := ez7 ▸ (b11 1)
      refine pm_R_iald pm_M66 (pc' := 14) (v := z6) rfl e10 (T.lt (by decide)) rfl ez7 rfl ?_
      refine pm_R_icmp pm_M66 (t := 21) (pc' := 17) rfl rfl rfl (fun c12 => ?_) (fun c12 => ?_)
      · have B13 : sf_B 0 2 a1 := sf_ltL c12 B5 B8
        have B14 : sf_B 1 3 z6 := sf_ltR c12 B5 B8
        refine pm_R_lo pm_M66 (pc' := 22) rfl rfl rfl ?_
        refine pm_R_get pm_M66 (pc' := 25) (v := .ref 17) rfl rfl T.e16 (by decide) (T.lt (by decide)) rfl rfl ?_
        refine pm_R_get pm_M66 (pc' := 28) (v := .ref 20) rfl rfl T.e17 (by decide) (T.lt (by decide)) rfl rfl ?_
        refine pm_R_lo pm_M66 (pc' := 29) rfl rfl rfl ?_
        obtain ⟨f15, e16, b17⟩ := T.C 20 (by decide) (by decide)
        obtain ⟨l18, hx19⟩ := cl_there1 T e10 e16 ez7 c12 B13 (by decide)
        have hk20 := b17 _ _ hx19
        refine pm_R_aald pm_M66 (pc' := 30) (v := .ref l18) rfl e16 (by decide) (by decide) (by decide) (T.lt (by decide)) (sf_in B13 (by decide) (by decide)) (by rw [hx19]; rfl) rfl ?_
        refine pm_R_ret pm_M66 (r := some (.ref l18)) rfl rfl ?_
        show pm_R _ 81 12 [.ref 16, .int a0, .int a1, .int a2, .null, pm_no] [.ref l18] _ _
        refine pm_R_lo pm_M81 (pc' := 14) (ls' := [.ref 16, .int a0, .int a1, .int a2, .null, .ref l18]) (st' := []) rfl rfl rfl ?_
        refine pm_R_lo pm_M81 (pc' := 16) rfl rfl rfl ?_
        refine pm_R_br pm_M81 (pc' := 31) rfl rfl ?_
        refine pm_R_ldc2 pm_M81 (pc' := 34) rfl rfl rfl ?_
        exact pm_R_ret pm_M81 (r := some (.long (-1))) rfl rfl (K (-1) m o h T ((cl_F.refl (ck := ck) (A := [16, 33, 34]) (n := 0) (s := 0) T.1).weak (by decide) (by decide)) (rf_W.refl [] m) (Nat.add_le_add_left ((cl_F.refl (ck := ck) (A := [16, 33, 34]) (n := 0) (s := 0) T.1).2.2.2.1) _))
      · skip
        refine pm_R_op pm_M66 (pc' := 18) (st' := [.null]) rfl rfl rfl ?_
        refine pm_R_br pm_M66 (pc' := 30) rfl rfl ?_
        refine pm_R_ret pm_M66 (r := some (.null)) rfl rfl ?_
        show pm_R _ 81 12 [.ref 16, .int a0, .int a1, .int a2, .null, pm_no] [.null] _ _
        refine pm_R_lo pm_M81 (pc' := 14) (ls' := [.ref 16, .int a0, .int a1, .int a2, .null, .null]) (st' := []) rfl rfl rfl ?_
        refine pm_R_lo pm_M81 (pc' := 16) rfl rfl rfl ?_
        refine pm_R_br pm_M81 (pc' := 31) rfl rfl ?_
        refine pm_R_ldc2 pm_M81 (pc' := 34) rfl rfl rfl ?_
        exact pm_R_ret pm_M81 (r := some (.long (-1))) rfl rfl (K (-1) m o h T ((cl_F.refl (ck := ck) (A := [16, 33, 34]) (n := 0) (s := 0) T.1).weak (by decide) (by decide)) (rf_W.refl [] m) (Nat.add_le_add_left ((cl_F.refl (ck := ck) (A := [16, 33, 34]) (n := 0) (s := 0) T.1).2.2.2.1) _))
  · have B21 : sf_B 0 2147483647 a0 := sf_leR (Int32.not_lt.mp c1) sf_k0 (sf_any a0)
    refine pm_R_lo pm_M62 (pc' := 5) rfl rfl rfl ?_
    refine pm_R_lo pm_M62 (pc' := 6) rfl rfl rfl ?_
    refine pm_R_get pm_M62 (pc' := 9) (v := .ref 17) rfl rfl T.e16 (by decide) (T.lt (by decide)) rfl rfl ?_
    refine pm_R_get pm_M62 (pc' := 12) (v := .ref 23) rfl rfl T.e17 (by decide) (T.lt (by decide)) rfl rfl ?_
    refine pm_R_op pm_M62 (pc' := 13) (st' := [.int 0, .ref 23, .int a0]) rfl rfl rfl ?_
    obtain ⟨f25, e26, b27⟩ := T.C 23 (by decide) (by decide)
    obtain ⟨z22, ez23⟩ : ∃ y, f25 (Int32.toNatClampNeg 0) = y := ⟨_, rfl⟩
    have B24 : sf_B 0 2 z22 := ez23 ▸ (b27 0)
    refine pm_R_iald pm_M62 (pc' := 14) (v := z22) rfl e26 (T.lt (by decide)) rfl ez23 rfl ?_
    refine pm_R_icmp pm_M62 (t := 21) (pc' := 17) rfl rfl rfl (fun c28 => ?_) (fun c28 => ?_)
    · have B29 : sf_B 0 1 a0 := sf_ltL c28 B21 B24
      have B30 : sf_B 1 2 z22 := sf_ltR c28 B21 B24
      refine pm_R_lo pm_M62 (pc' := 22) rfl rfl rfl ?_
      refine pm_R_get pm_M62 (pc' := 25) (v := .ref 17) rfl rfl T.e16 (by decide) (T.lt (by decide)) rfl rfl ?_
      refine pm_R_get pm_M62 (pc' := 28) (v := .ref 19) rfl rfl T.e17 (by decide) (T.lt (by decide)) rfl rfl ?_
      refine pm_R_lo pm_M62 (pc' := 29) rfl rfl rfl ?_
      obtain ⟨f31, e32, b33⟩ := T.C 19 (by decide) (by decide)
      obtain ⟨l34, hx35⟩ := cl_there0 T e26 e32 ez23 c28 B29 (by decide)
      have hk36 := b33 _ _ hx35
      refine pm_R_aald pm_M62 (pc' := 30) (v := .ref l34) rfl e32 (by decide) (by decide) (by decide) (T.lt (by decide)) (sf_in B29 (by decide) (by decide)) (by rw [hx35]; rfl) rfl ?_
      refine pm_R_ret pm_M62 (r := some (.ref l34)) rfl rfl ?_
      show pm_R _ 81 5 [.ref 16, .int a0, .int a1, .int a2, pm_no, pm_no] [.ref l34] _ _
      refine pm_R_lo pm_M81 (pc' := 7) (ls' := [.ref 16, .int a0, .int a1, .int a2, .ref l34, pm_no]) (st' := []) rfl rfl rfl ?_
      refine pm_R_lo pm_M81 (pc' := 8) rfl rfl rfl ?_
      refine pm_R_lo pm_M81 (pc' := 9) rfl rfl rfl ?_
      refine pm_R_cv pm_M81 (pc' := 12) (a := 16) (ra := [.int a1]) (rest := []) (ls' := [.ref 16, .int a1]) rfl rfl (Or.inl rfl) pm_M66 T.e16 rfl (by decide) (T.lt (by decide)) rfl rfl (Nat.le_of_ble_eq_true rfl) rfl rfl ?_
      refine pm_R_lo pm_M66 (pc' := 1) rfl rfl rfl ?_
      refine pm_R_ifc pm_M66 (t := 17) (pc' := 4) rfl rfl rfl (fun c37 => ?_) (fun c37 => ?_)
      · have B38 : sf_B (-2147483648) (-1) a1 := sf_ltL c37 (sf_any a1) sf_k0
        refine pm_R_op pm_M66 (pc' := 18) (st' := [.null]) rfl rfl rfl ?_
        refine pm_R_br pm_M66 (pc' := 30) rfl rfl ?_
        refine pm_R_ret pm_M66 (r := some (.null)) rfl rfl ?_
        show pm_R _ 81 12 [.ref 16, .int a0, .int a1, .int a2, .ref l34, pm_no] [.null] _ _
        refine pm_R_lo pm_M81 (pc' := 14) (ls' := [.ref 16, .int a0, .int a1, .int a2, .ref l34, .null]) (st' := []) rfl rfl rfl ?_
        refine pm_R_lo pm_M81 (pc' := 16) rfl rfl rfl ?_
        refine pm_R_br pm_M81 (pc' := 19) rfl rfl ?_
        refine pm_R_lo pm_M81 (pc' := 21) rfl rfl rfl ?_
        refine pm_R_br pm_M81 (pc' := 31) rfl rfl ?_
        refine pm_R_ldc2 pm_M81 (pc' := 34) rfl rfl rfl ?_
        exact pm_R_ret pm_M81 (r := some (.long (-1))) rfl rfl (K (-1) m o h T ((cl_F.refl (ck := ck) (A := [16, 33, 34]) (n := 0) (s := 0) T.1).weak (by decide) (by decide)) (rf_W.refl [] m) (Nat.add_le_add_left ((cl_F.refl (ck := ck) (A := [16, 33, 34]) (n := 0) (s := 0) T.1).2.2.2.1) _))
      · have B39 : sf_B 0 2147483647 a1 := sf_leR (Int32.not_lt.mp c37) sf_k0 (sf_any a1)
        refine pm_R_lo pm_M66 (pc' := 5) rfl rfl rfl ?_
        refine pm_R_lo pm_M66 (pc' := 6) rfl rfl rfl ?_
        refine pm_R_get pm_M66 (pc' := 9) (v := .ref 17) rfl rfl T.e16 (by decide) (T.lt (by decide)) rfl rfl ?_
        refine pm_R_get pm_M66 (pc' := 12) (v := .ref 23) rfl rfl T.e17 (by decide) (T.lt (by decide)) rfl rfl ?_
        refine pm_R_op pm_M66 (pc' := 13) (st' := [.int 1, .ref 23, .int a1]) rfl rfl rfl ?_
        obtain ⟨z40, ez41⟩ : ∃ y, f25 (Int32.toNatClampNeg 1) = y := ⟨_, rfl⟩
        have B42 : sf_B 0 3 z40 := ez41 ▸ (b27 1)
        refine pm_R_iald pm_M66 (pc' := 14) (v := z40) rfl e26 (T.lt (by decide)) rfl ez41 rfl ?_
        refine pm_R_icmp pm_M66 (t := 21) (pc' := 17) rfl rfl rfl (fun c43 => ?_) (fun c43 => ?_)
        · have B44 : sf_B 0 2 a1 := sf_ltL c43 B39 B42
          have B45 : sf_B 1 3 z40 := sf_ltR c43 B39 B42
          refine pm_R_lo pm_M66 (pc' := 22) rfl rfl rfl ?_
          refine pm_R_get pm_M66 (pc' := 25) (v := .ref 17) rfl rfl T.e16 (by decide) (T.lt (by decide)) rfl rfl ?_
          refine pm_R_get pm_M66 (pc' := 28) (v := .ref 20) rfl rfl T.e17 (by decide) (T.lt (by decide)) rfl rfl ?_
          refine pm_R_lo pm_M66 (pc' := 29) rfl rfl rfl ?_
          obtain ⟨f46, e47, b48⟩ := T.C 20 (by decide) (by decide)
          obtain ⟨l49, hx50⟩ := cl_there1 T e26 e47 ez41 c43 B44 (by decide)
          have hk51 := b48 _ _ hx50
          refine pm_R_aald pm_M66 (pc' := 30) (v := .ref l49) rfl e47 (by decide) (by decide) (by decide) (T.lt (by decide)) (sf_in B44 (by decide) (by decide)) (by rw [hx50]; rfl) rfl ?_
          refine pm_R_ret pm_M66 (r := some (.ref l49)) rfl rfl ?_
          show pm_R _ 81 12 [.ref 16, .int a0, .int a1, .int a2, .ref l34, pm_no] [.ref l49] _ _
          refine pm_R_lo pm_M81 (pc' := 14) (ls' := [.ref 16, .int a0, .int a1, .int a2, .ref l34, .ref l49]) (st' := []) rfl rfl rfl ?_
          refine pm_R_lo pm_M81 (pc' := 16) rfl rfl rfl ?_
          refine pm_R_br pm_M81 (pc' := 19) rfl rfl ?_
          refine pm_R_lo pm_M81 (pc' := 21) rfl rfl rfl ?_
          refine pm_R_br pm_M81 (pc' := 24) rfl rfl ?_
          refine pm_R_lo pm_M81 (pc' := 25) rfl rfl rfl ?_
          refine pm_R_cs pm_M81 (pc' := 28) (ra := [.int a2]) (rest := []) (ls' := [.int a2]) rfl rfl (Or.inl rfl) pm_M82 rfl rfl (Nat.le_of_ble_eq_true rfl) rfl rfl ?_
          refine pm_R_lo pm_M82 (pc' := 1) rfl rfl rfl ?_
          refine pm_R_ifc pm_M82 (t := 14) (pc' := 4) rfl rfl rfl (fun c52 => ?_) (fun c52 => ?_)
          · have B53 : sf_B (-2147483648) (-1) a2 := sf_ltL c52 (sf_any a2) sf_k0
            refine pm_R_op pm_M82 (pc' := 15) (st' := [.int 0]) rfl rfl rfl ?_
            refine pm_R_ret pm_M82 (r := some (.int 0)) rfl rfl ?_
            show pm_R _ 81 28 [.ref 16, .int a0, .int a1, .int a2, .ref l34, .ref l49] [.int 0] _ _
            refine pm_R_br pm_M81 (pc' := 31) (st' := []) rfl rfl ?_
            refine pm_R_ldc2 pm_M81 (pc' := 34) rfl rfl rfl ?_
            exact pm_R_ret pm_M81 (r := some (.long (-1))) rfl rfl (K (-1) m o h T ((cl_F.refl (ck := ck) (A := [16, 33, 34]) (n := 0) (s := 0) T.1).weak (by decide) (by decide)) (rf_W.refl [] m) (Nat.add_le_add_left ((cl_F.refl (ck := ck) (A := [16, 33, 34]) (n := 0) (s := 0) T.1).2.2.2.1) _))
          · have B54 : sf_B 0 2147483647 a2 := sf_leR (Int32.not_lt.mp c52) sf_k0 (sf_any a2)
            refine pm_R_lo pm_M82 (pc' := 5) rfl rfl rfl ?_
            refine pm_R_op pm_M82 (pc' := 7) (st' := [.int 50, .int a2]) rfl rfl rfl ?_
            refine pm_R_icmp pm_M82 (t := 14) (pc' := 10) rfl rfl rfl (fun c55 => ?_) (fun c55 => ?_)
            · have B56 : sf_B 50 2147483647 a2 := sf_leR c55 sf_k50 B54
              refine pm_R_op pm_M82 (pc' := 15) (st' := [.int 0]) rfl rfl rfl ?_
              refine pm_R_ret pm_M82 (r := some (.int 0)) rfl rfl ?_
              show pm_R _ 81 28 [.ref 16, .int a0, .int a1, .int a2, .ref l34, .ref l49] [.int 0] _ _
              refine pm_R_br pm_M81 (pc' := 31) (st' := []) rfl rfl ?_
              refine pm_R_ldc2 pm_M81 (pc' := 34) rfl rfl rfl ?_
              exact pm_R_ret pm_M81 (r := some (.long (-1))) rfl rfl (K (-1) m o h T ((cl_F.refl (ck := ck) (A := [16, 33, 34]) (n := 0) (s := 0) T.1).weak (by decide) (by decide)) (rf_W.refl [] m) (Nat.add_le_add_left ((cl_F.refl (ck := ck) (A := [16, 33, 34]) (n := 0) (s := 0) T.1).2.2.2.1) _))
            · have B57 : sf_B 0 49 a2 := sf_ltL (Int32.not_le.mp c55) B54 sf_k50
              refine pm_R_op pm_M82 (pc' := 11) (st' := [.int 1]) rfl rfl rfl ?_
              refine pm_R_br pm_M82 (pc' := 15) rfl rfl ?_
              refine pm_R_ret pm_M82 (r := some (.int 1)) rfl rfl ?_
              show pm_R _ 81 28 [.ref 16, .int a0, .int a1, .int a2, .ref l34, .ref l49] [.int 1] _ _
              refine pm_R_br pm_M81 (pc' := 35) (st' := []) rfl rfl ?_
              refine pm_R_lo pm_M81 (pc' := 36) rfl rfl rfl ?_
              refine pm_R_get pm_M81 (pc' := 39) (v := .ref 33) rfl rfl T.e16 (by decide) (T.lt (by decide)) rfl rfl ?_
              refine pm_R_lo pm_M81 (pc' := 41) rfl rfl rfl ?_
              refine pm_R_lo pm_M81 (pc' := 43) rfl rfl rfl ?_
              refine pm_R_cv pm_M81 (pc' := 46) (a := 33) (ra := [.ref l49, .ref l34]) (rest := []) (ls' := [.ref 33, .ref l34, .ref l49, pm_no, pm_no]) rfl rfl (Or.inl rfl) pm_M70 T.e33 rfl (by decide) (T.lt (by decide)) rfl rfl (Nat.le_of_ble_eq_true rfl) rfl rfl ?_
              refine cl_c70 (d := d + 0) G T hk36 hk51 (fun m60 o65 h61 T62 F63 W64 X66 X67 => ?_)
              have F68 := (cl_F.refl (ck := ck) (A := [16, 33, 34]) (n := 0) (s := 0) T.1).trans (N := 0) (S := 0) F63 (by decide) (by decide) (by decide)
              have W69 : rf_W [] m m60 := (rf_W.refl [] m).trans W64 (by decide)
              show pm_R _ 81 46 [.ref 16, .int a0, .int a1, .int a2, .ref l34, .ref l49] [] _ _
              have z70 := cl_o0 (F63.cell G (by decide) (by decide) T.e16) T62.e16
              exact cl_c81_m (d := d + 0) G T62 B57 X66 X67 (fun r m9 o9 ck9 h9 q1 q2 q3 q4 q5 q6 q7 q8 q9 => K2 r m9 o9 ck9 h9 (fun b hb => q1 b (Nat.lt_of_lt_of_le hb F68.2.1)) q2 q3 (F68.trans q8 (by decide) (by decide) (by decide)) (W69.trans q9 (by decide)) (cl_p0x q6 q7 q8.2.2.2.1 z70 F68.2.2.2.1))
        · skip
          refine pm_R_op pm_M66 (pc' := 18) (st' := [.null]) rfl rfl rfl ?_
          refine pm_R_br pm_M66 (pc' := 30) rfl rfl ?_
          refine pm_R_ret pm_M66 (r := some (.null)) rfl rfl ?_
          show pm_R _ 81 12 [.ref 16, .int a0, .int a1, .int a2, .ref l34, pm_no] [.null] _ _
          refine pm_R_lo pm_M81 (pc' := 14) (ls' := [.ref 16, .int a0, .int a1, .int a2, .ref l34, .null]) (st' := []) rfl rfl rfl ?_
          refine pm_R_lo pm_M81 (pc' := 16) rfl rfl rfl ?_
          refine pm_R_br pm_M81 (pc' := 19) rfl rfl ?_
          refine pm_R_lo pm_M81 (pc' := 21) rfl rfl rfl ?_
          refine pm_R_br pm_M81 (pc' := 31) rfl rfl ?_
          refine pm_R_ldc2 pm_M81 (pc' := 34) rfl rfl rfl ?_
          exact pm_R_ret pm_M81 (r := some (.long (-1))) rfl rfl (K (-1) m o h T ((cl_F.refl (ck := ck) (A := [16, 33, 34]) (n := 0) (s := 0) T.1).weak (by decide) (by decide)) (rf_W.refl [] m) (Nat.add_le_add_left ((cl_F.refl (ck := ck) (A := [16, 33, 34]) (n := 0) (s := 0) T.1).2.2.2.1) _))
    · skip
      refine pm_R_op pm_M62 (pc' := 18) (st' := [.null]) rfl rfl rfl ?_
      refine pm_R_br pm_M62 (pc' := 30) rfl rfl ?_
      refine pm_R_ret pm_M62 (r := some (.null)) rfl rfl ?_
      show pm_R _ 81 5 [.ref 16, .int a0, .int a1, .int a2, pm_no, pm_no] [.null] _ _
      refine pm_R_lo pm_M81 (pc' := 7) (ls' := [.ref 16, .int a0, .int a1, .int a2, .null, pm_no]) (st' := []) rfl rfl rfl ?_
      refine pm_R_lo pm_M81 (pc' := 8) rfl rfl rfl ?_
      refine pm_R_lo pm_M81 (pc' := 9) rfl rfl rfl ?_
      refine pm_R_cv pm_M81 (pc' := 12) (a := 16) (ra := [.int a1]) (rest := []) (ls' := [.ref 16, .int a1]) rfl rfl (Or.inl rfl) pm_M66 T.e16 rfl (by decide) (T.lt (by decide)) rfl rfl (Nat.le_of_ble_eq_true rfl) rfl rfl ?_
      refine pm_R_lo pm_M66 (pc' := 1) rfl rfl rfl ?_
      refine pm_R_ifc pm_M66 (t := 17) (pc' := 4) rfl rfl rfl (fun c71 => ?_) (fun c71 => ?_)
      · have B72 : sf_B (-2147483648) (-1) a1 := sf_ltL c71 (sf_any a1) sf_k0
        refine pm_R_op pm_M66 (pc' := 18) (st' := [.null]) rfl rfl rfl ?_
        refine pm_R_br pm_M66 (pc' := 30) rfl rfl ?_
        refine pm_R_ret pm_M66 (r := some (.null)) rfl rfl ?_
        show pm_R _ 81 12 [.ref 16, .int a0, .int a1, .int a2, .null, pm_no] [.null] _ _
        refine pm_R_lo pm_M81 (pc' := 14) (ls' := [.ref 16, .int a0, .int a1, .int a2, .null, .null]) (st' := []) rfl rfl rfl ?_
        refine pm_R_lo pm_M81 (pc' := 16) rfl rfl rfl ?_
        refine pm_R_br pm_M81 (pc' := 31) rfl rfl ?_
        refine pm_R_ldc2 pm_M81 (pc' := 34) rfl rfl rfl ?_
        exact pm_R_ret pm_M81 (r := some (.long (-1))) rfl rfl (K (-1) m o h T ((cl_F.refl (ck := ck) (A := [16, 33, 34]) (n := 0) (s := 0) T.1).weak (by decide) (by decide)) (rf_W.refl [] m) (Nat.add_le_add_left ((cl_F.refl (ck := ck) (A := [16, 33, 34]) (n := 0) (s := 0) T.1).2.2.2.1) _))
      · have B73 : sf_B 0 2147483647 a1 := sf_leR (Int32.not_lt.mp c71) sf_k0 (sf_any a1)
        refine pm_R_lo pm_M66 (pc' := 5) rfl rfl rfl ?_
        refine pm_R_lo pm_M66 (pc' := 6) rfl rfl rfl ?_
        refine pm_R_get pm_M66 (pc' := 9) (v := .ref 17) rfl rfl T.e16 (by decide) (T.lt (by decide)) rfl rfl ?_
        refine pm_R_get pm_M66 (pc' := 12) (v := .ref 23) rfl rfl T.e17 (by decide) (T.lt (by decide)) rfl rfl ?_
        refine pm_R_op pm_M66 (pc' := 13) (st' := [.int 1, .ref 23, .int a1]) rfl rfl rfl ?_
        obtain ⟨z74, ez75⟩ : ∃ y, f25 (Int32.toNatClampNeg 1) = y := ⟨_, rfl⟩
        have B76 : sf_B 0 3 z74 := ez75 ▸ (b27 1)
        refine pm_R_iald pm_M66 (pc' := 14) (v := z74) rfl e26 (T.lt (by decide)) rfl ez75 rfl ?_
        refine pm_R_icmp pm_M66 (t := 21) (pc' := 17) rfl rfl rfl (fun c77 => ?_) (fun c77 => ?_)
        · have B78 : sf_B 0 2 a1 := sf_ltL c77 B73 B76
          have B79 : sf_B 1 3 z74 := sf_ltR c77 B73 B76
          refine pm_R_lo pm_M66 (pc' := 22) rfl rfl rfl ?_
          refine pm_R_get pm_M66 (pc' := 25) (v := .ref 17) rfl rfl T.e16 (by decide) (T.lt (by decide)) rfl rfl ?_
          refine pm_R_get pm_M66 (pc' := 28) (v := .ref 20) rfl rfl T.e17 (by decide) (T.lt (by decide)) rfl rfl ?_
          refine pm_R_lo pm_M66 (pc' := 29) rfl rfl rfl ?_
          obtain ⟨f80, e81, b82⟩ := T.C 20 (by decide) (by decide)
          obtain ⟨l83, hx84⟩ := cl_there1 T e26 e81 ez75 c77 B78 (by decide)
          have hk85 := b82 _ _ hx84
          refine pm_R_aald pm_M66 (pc' := 30) (v := .ref l83) rfl e81 (by decide) (by decide) (by decide) (T.lt (by decide)) (sf_in B78 (by decide) (by decide)) (by rw [hx84]; rfl) rfl ?_
          refine pm_R_ret pm_M66 (r := some (.ref l83)) rfl rfl ?_
          show pm_R _ 81 12 [.ref 16, .int a0, .int a1, .int a2, .null, pm_no] [.ref l83] _ _
          refine pm_R_lo pm_M81 (pc' := 14) (ls' := [.ref 16, .int a0, .int a1, .int a2, .null, .ref l83]) (st' := []) rfl rfl rfl ?_
          refine pm_R_lo pm_M81 (pc' := 16) rfl rfl rfl ?_
          refine pm_R_br pm_M81 (pc' := 31) rfl rfl ?_
          refine pm_R_ldc2 pm_M81 (pc' := 34) rfl rfl rfl ?_
          exact pm_R_ret pm_M81 (r := some (.long (-1))) rfl rfl (K (-1) m o h T ((cl_F.refl (ck := ck) (A := [16, 33, 34]) (n := 0) (s := 0) T.1).weak (by decide) (by decide)) (rf_W.refl [] m) (Nat.add_le_add_left ((cl_F.refl (ck := ck) (A := [16, 33, 34]) (n := 0) (s := 0) T.1).2.2.2.1) _))
        · skip
          refine pm_R_op pm_M66 (pc' := 18) (st' := [.null]) rfl rfl rfl ?_
          refine pm_R_br pm_M66 (pc' := 30) rfl rfl ?_
          refine pm_R_ret pm_M66 (r := some (.null)) rfl rfl ?_
          show pm_R _ 81 12 [.ref 16, .int a0, .int a1, .int a2, .null, pm_no] [.null] _ _
          refine pm_R_lo pm_M81 (pc' := 14) (ls' := [.ref 16, .int a0, .int a1, .int a2, .null, .null]) (st' := []) rfl rfl rfl ?_
          refine pm_R_lo pm_M81 (pc' := 16) rfl rfl rfl ?_
          refine pm_R_br pm_M81 (pc' := 31) rfl rfl ?_
          refine pm_R_ldc2 pm_M81 (pc' := 34) rfl rfl rfl ?_
          exact pm_R_ret pm_M81 (r := some (.long (-1))) rfl rfl (K (-1) m o h T ((cl_F.refl (ck := ck) (A := [16, 33, 34]) (n := 0) (s := 0) T.1).weak (by decide) (by decide)) (rf_W.refl [] m) (Nat.add_le_add_left ((cl_F.refl (ck := ck) (A := [16, 33, 34]) (n := 0) (s := 0) T.1).2.2.2.1) _))
