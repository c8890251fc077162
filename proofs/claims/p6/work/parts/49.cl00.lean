theorem cl_aux23 (v0 v1 v2 v3 : Int) (q0 : v0 = v1 - 1) (q1 : v2 = 1 + v3) (q2 : v1 < v2) : v0 < v3 := by omega
set_option maxRecDepth 100000 in
set_option maxHeartbeats 4000000 in
/-- SilentTable.drawn -/
theorem cl_c120 {d : Nat} {ck : cl_K} {E : Nat → pm_E} {m : Nat → Int32} {o : Nat → Option Nat} {h : pm_H} {Q : Option Value → pm_H → Prop} {a0 : Int32} {a1 : Int32} {a2 : Int32} {a3 : Int32} {a4 : Int32} (G : cl_G ck E) (T : cl_T ck E m o h)  (K : ∀ (r : Int32) (m' : Nat → Int32) (h' : pm_H), cl_T ck E m' o h' → cl_F ck [] 1 12 h h' → rf_W [] m m' → sf_B (-1) 9 r → Q (some (.int r)) h') : pm_R (d + 2) 120 0 [.ref 16, .int a0, .int a1, .int a2, .int a3, .int a4, pm_no, pm_no, pm_no, pm_no, pm_no, pm_no, pm_no, pm_no] [] h Q := by
  refine pm_R_lo pm_M120 (pc' := 1) rfl rfl rfl ?_
  refine pm_R_lo pm_M120 (pc' := 2) rfl rfl rfl ?_
  refine pm_R_cv pm_M120 (pc' := 5) (a := 16) (ra := [.int a0]) (rest := []) (ls' := [.ref 16, .int a0]) rfl rfl (Or.inl rfl) pm_M62 T.e16 rfl (by decide) (T.lt (by decide)) rfl rfl (Nat.le_of_ble_eq_true rfl) rfl rfl ?_
  refine pm_R_lo pm_M62 (pc' := 1) rfl rfl rfl ?_
  refine pm_R_ifc pm_M62 (t := 17) (pc' := 4) rfl rfl rfl (fun c1 => ?_) (fun c1 => ?_)
  · have B2 : sf_B (-2147483648) (-1) a0 := sf_ltL c1 (sf_any a0) sf_k0
    refine pm_R_op pm_M62 (pc' := 18) (st' := [.null]) rfl rfl rfl ?_
    refine pm_R_br pm_M62 (pc' := 30) rfl rfl ?_
    refine pm_R_ret pm_M62 (r := some (.null)) rfl rfl ?_
    show pm_R _ 120 5 [.ref 16, .int a0, .int a1, .int a2, .int a3, .int a4, pm_no, pm_no, pm_no, pm_no, pm_no, pm_no, pm_no, pm_no] [.null] _ _
    refine pm_R_lo pm_M120 (pc' := 7) (ls' := [.ref 16, .int a0, .int a1, .int a2, .int a3, .int a4, .null, pm_no, pm_no, pm_no, pm_no, pm_no, pm_no, pm_no]) (st' := []) rfl rfl rfl ?_
    refine pm_R_lo pm_M120 (pc' := 8) rfl rfl rfl ?_
    refine pm_R_lo pm_M120 (pc' := 9) rfl rfl rfl ?_
    refine pm_R_cv pm_M120 (pc' := 12) (a := 16) (ra := [.int a1]) (rest := []) (ls' := [.ref 16, .int a1]) rfl rfl (Or.inl rfl) pm_M66 T.e16 rfl (by decide) (T.lt (by decide)) rfl rfl (Nat.le_of_ble_eq_true rfl) rfl rfl ?_
    refine pm_R_lo pm_M66 (pc' := 1) rfl rfl rfl ?_
    refine pm_R_ifc pm_M66 (t := 17) (pc' := 4) rfl rfl rfl (fun c3 => ?_) (fun c3 => ?_)
    · have B4 : sf_B (-2147483648) (-1) a1 := sf_ltL c3 (sf_any a1) sf_k0
      refine pm_R_op pm_M66 (pc' := 18) (st' := [.null]) rfl rfl rfl ?_
      refine pm_R_br pm_M66 (pc' := 30) rfl rfl ?_
      refine pm_R_ret pm_M66 (r := some (.null)) rfl rfl ?_
      show pm_R _ 120 12 [.ref 16, .int a0, .int a1, .int a2, .int a3, .int a4, .null, pm_no, pm_no, pm_no, pm_no, pm_no, pm_no, pm_no] [.null] _ _
      refine pm_R_lo pm_M120 (pc' := 14) (ls' := [.ref 16, .int a0, .int a1, .int a2, .int a3, .int a4, .null, .null, pm_no, pm_no, pm_no, pm_no, pm_no, pm_no]) (st' := []) rfl rfl rfl ?_
      refine pm_R_lo pm_M120 (pc' := 16) rfl rfl rfl ?_
      refine pm_R_br pm_M120 (pc' := 41) rfl rfl ?_
      refine pm_R_op pm_M120 (pc' := 42) (st' := [.int (-1)]) rfl rfl rfl ?_
      exact pm_R_ret pm_M120 (r := some (.int (-1))) rfl rfl (K (-1) m h T ((cl_F.refl (ck := ck) (A := []) (n := 0) (s := 0) T.1).weak (by decide) (by decide)) (rf_W.refl [] m) (sf_weak sf_kn1 (by decide) (by decide)))
    · have B5 : sf_B 0 2147483647 a1 := sf_leR (Int32.not_lt.mp c3) sf_k0 (sf_any a1)
      refine pm_R_lo pm_M66 (pc' := 5) rfl rfl rfl ?_
      refine pm_R_lo pm_M66 (pc' := 6) rfl rfl rfl ?_
      refine pm_R_get pm_M66 (pc' := 9) (v := .ref 17) rfl rfl T.e16 (by decide) (T.lt (by decide)) rfl rfl ?_
      refine pm_R_get pm_M66 (pc' := 12) (v := .ref 23) rfl rfl T.e17 (by decide) (T.lt (by decide)) rfl rfl ?_
      refine pm_R_op pm_M66 (pc' := 13) (st' := [.int 1, .ref 23, .int a1]) rfl rfl rfl ?_
      obtain ⟨f9, e10, b11⟩ := T.C 23 (by decide) (by decide)
      obtain ⟨z6, ez7⟩ : ∃ y, f9 (Int32.toNatClampNeg 1) = y := ⟨_, rfl⟩
      have B8 : sf_B 0 3 z6 := ez7 ▸ (b11 1)
      refine pm_R_iald pm_M66 (pc' := 14) (v := z6) rfl e10 (T.lt (by decide)) rfl ez7 rfl ?_
      refine pm_R_icmp pm_M66 (t := 21) (pc' := 17) rfl rfl rfl (fun c12 => ?_) (fun c12 => ?_)
      · have B13 : sf_B 0 2 a1 := sf_ltL c12 B5 B8
        have B14 : sf_B 1 3 z6 := sf_ltR c12 B5 B8
        refine pm_R_lo pm_M66 (pc' := 22) rfl rfl rfl ?_
        refine pm_R_get pm_M66 (pc' := 25) (v := .ref 17) rfl rfl T.e16 (by decide) (T.lt (by decide)) rfl rfl ?_
        refine pm_R_get pm_M66 (pc' := 28) (v := .ref 20) rfl rfl T.e17 (by decide) (T.lt (by decide)) rfl rfl ?_
        refine pm_R_lo pm_M66 (pc' := 29) rfl rfl rfl ?_
        obtain ⟨f15, e16, b17⟩ := T.C 20 (by decide) (by decide)
        obtain ⟨l18, hx19⟩ := cl_there1 T e10 e16 ez7 c12 B13 (by decide)
        have hk20 := b17 _ _ hx19
        refine pm_R_aald pm_M66 (pc' := 30) (v := .ref l18) rfl e16 (by decide) (by decide) (by decide) (T.lt (by decide)) (sf_in B13 (by decide) (by decide)) (by rw [hx19]; rfl) rfl ?_
        refine pm_R_ret pm_M66 (r := some (.ref l18)) rfl rfl ?_
        show pm_R _ 120 12 [.ref 16, .int a0, .int a1, .int a2, .int a3, .int a4, .null, pm_no, pm_no, pm_no, pm_no, pm_no, pm_no, pm_no] [.ref l18] _ _
        refine pm_R_lo pm_M120 (pc' := 14) (ls' := [.ref 16, .int a0, .int a1, .int a2, .int a3, .int a4, .null, .ref l18, pm_no, pm_no, pm_no, pm_no, pm_no, pm_no]) (st' := []) rfl rfl rfl ?_
        refine pm_R_lo pm_M120 (pc' := 16) rfl rfl rfl ?_
        refine pm_R_br pm_M120 (pc' := 41) rfl rfl ?_
        refine pm_R_op pm_M120 (pc' := 42) (st' := [.int (-1)]) rfl rfl rfl ?_
        exact pm_R_ret pm_M120 (r := some (.int (-1))) rfl rfl (K (-1) m h T ((cl_F.refl (ck := ck) (A := []) (n := 0) (s := 0) T.1).weak (by decide) (by decide)) (rf_W.refl [] m) (sf_weak sf_kn1 (by decide) (by decide)))
      · skip
        refine pm_R_op pm_M66 (pc' := 18) (st' := [.null]) rfl rfl rfl ?_
        refine pm_R_br pm_M66 (pc' := 30) rfl rfl ?_
        refine pm_R_ret pm_M66 (r := some (.null)) rfl rfl ?_
        show pm_R _ 120 12 [.ref 16, .int a0, .int a1, .int a2, .int a3, .int a4, .null, pm_no, pm_no, pm_no, pm_no, pm_no, pm_no, pm_no] [.null] _ _
        refine pm_R_lo pm_M120 (pc' := 14) (ls' := [.ref 16, .int a0, .int a1, .int a2, .int a3, .int a4, .null, .null, pm_no, pm_no, pm_no, pm_no, pm_no, pm_no]) (st' := []) rfl rfl rfl ?_
        refine pm_R_lo pm_M120 (pc' := 16) rfl rfl rfl ?_
        refine pm_R_br pm_M120 (pc' := 41) rfl rfl ?_
        refine pm_R_op pm_M120 (pc' := 42) (st' := [.int (-1)]) rfl rfl rfl ?_
        exact pm_R_ret pm_M120 (r := some (.int (-1))) rfl rfl (K (-1) m h T ((cl_F.refl (ck := ck) (A := []) (n := 0) (s := 0) T.1).weak (by decide) (by decide)) (rf_W.refl [] m) (sf_weak sf_kn1 (by decide) (by decide)))
  · have B21 : sf_B 0 2147483647 a0 := sf_leR (Int32.not_lt.mp c1) sf_k0 (sf_any a0)
    refine pm_R_lo pm_M62 (pc' := 5) rfl rfl rfl ?_
    refine pm_R_lo pm_M62 (pc' := 6) rfl rfl rfl ?_
    refine pm_R_get pm_M62 (pc' := 9) (v := .ref 17) rfl rfl T.e16 (by decide) (T.lt (by decide)) rfl rfl ?_
    refine pm_R_get pm_M62 (pc' := 12) (v := .ref 23) rfl rfl T.e17 (by decide) (T.lt (by decide)) rfl rfl ?_
    refine pm_R_op pm_M62 (pc' := 13) (st' := [.int 0, .ref 23, .int a0]) rfl rfl rfl ?_
    obtain ⟨f25, e26, b27⟩ := T.C 23 (by decide) (by decide)
    obtain ⟨z22, ez23⟩ : ∃ y, f25 (Int32.toNatClampNeg 0) = y := ⟨_, rfl⟩
    have B24 : sf_B 0 2 z22 := ez23 ▸ (b27 0)
    refine pm_R_iald pm_M62 (pc' := 14) (v := z22) rfl e26 (T.lt (by decide)) rfl ez23 rfl ?_
    refine pm_R_icmp pm_M62 (t := 21) (pc' := 17) rfl rfl rfl (fun c28 => ?_) (fun c28 => ?_)
    · have B29 : sf_B 0 1 a0 := sf_ltL c28 B21 B24
      have B30 : sf_B 1 2 z22 := sf_ltR c28 B21 B24
      refine pm_R_lo pm_M62 (pc' := 22) rfl rfl rfl ?_
      refine pm_R_get pm_M62 (pc' := 25) (v := .ref 17) rfl rfl T.e16 (by decide) (T.lt (by decide)) rfl rfl ?_
      refine pm_R_get pm_M62 (pc' := 28) (v := .ref 19) rfl rfl T.e17 (by decide) (T.lt (by decide)) rfl rfl ?_
      refine pm_R_lo pm_M62 (pc' := 29) rfl rfl rfl ?_
      obtain ⟨f31, e32, b33⟩ := T.C 19 (by decide) (by decide)
      obtain ⟨l34, hx35⟩ := cl_there0 T e26 e32 ez23 c28 B29 (by decide)
      have hk36 := b33 _ _ hx35
      refine pm_R_aald pm_M62 (pc' := 30) (v := .ref l34) rfl e32 (by decide) (by decide) (by decide) (T.lt (by decide)) (sf_in B29 (by decide) (by decide)) (by rw [hx35]; rfl) rfl ?_
      refine pm_R_ret pm_M62 (r := some (.ref l34)) rfl rfl ?_
      show pm_R _ 120 5 [.ref 16, .int a0, .int a1, .int a2, .int a3, .int a4, pm_no, pm_no, pm_no, pm_no, pm_no, pm_no, pm_no, pm_no] [.ref l34] _ _
      refine pm_R_lo pm_M120 (pc' := 7) (ls' := [.ref 16, .int a0, .int a1, .int a2, .int a3, .int a4, .ref l34, pm_no, pm_no, pm_no, pm_no, pm_no, pm_no, pm_no]) (st' := []) rfl rfl rfl ?_
      refine pm_R_lo pm_M120 (pc' := 8) rfl rfl rfl ?_
      refine pm_R_lo pm_M120 (pc' := 9) rfl rfl rfl ?_
      refine pm_R_cv pm_M120 (pc' := 12) (a := 16) (ra := [.int a1]) (rest := []) (ls' := [.ref 16, .int a1]) rfl rfl (Or.inl rfl) pm_M66 T.e16 rfl (by decide) (T.lt (by decide)) rfl rfl (Nat.le_of_ble_eq_true rfl) rfl rfl ?_
      refine pm_R_lo pm_M66 (pc' := 1) rfl rfl rfl ?_
      refine pm_R_ifc pm_M66 (t := 17) (pc' := 4) rfl rfl rfl (fun c37 => ?_) (fun c37 => ?_)
      · have B38 : sf_B (-2147483648) (-1) a1 := sf_ltL c37 (sf_any a1) sf_k0
        refine pm_R_op pm_M66 (pc' := 18) (st' := [.null]) rfl rfl rfl ?_
        refine pm_R_br pm_M66 (pc' := 30) rfl rfl ?_
        refine pm_R_ret pm_M66 (r := some (.null)) rfl rfl ?_
        show pm_R _ 120 12 [.ref 16, .int a0, .int a1, .int a2, .int a3, .int a4, .ref l34, pm_no, pm_no, pm_no, pm_no, pm_no, pm_no, pm_no] [.null] _ _
        refine pm_R_lo pm_M120 (pc' := 14) (ls' := [.ref 16, .int a0, .int a1, .int a2, .int a3, .int a4, .ref l34, .null, pm_no, pm_no, pm_no, pm_no, pm_no, pm_no]) (st' := []) rfl rfl rfl ?_
        refine pm_R_lo pm_M120 (pc' := 16) rfl rfl rfl ?_
        refine pm_R_br pm_M120 (pc' := 19) rfl rfl ?_
        refine pm_R_lo pm_M120 (pc' := 21) rfl rfl rfl ?_
        refine pm_R_br pm_M120 (pc' := 41) rfl rfl ?_
        refine pm_R_op pm_M120 (pc' := 42) (st' := [.int (-1)]) rfl rfl rfl ?_
        exact pm_R_ret pm_M120 (r := some (.int (-1))) rfl rfl (K (-1) m h T ((cl_F.refl (ck := ck) (A := []) (n := 0) (s := 0) T.1).weak (by decide) (by decide)) (rf_W.refl [] m) (sf_weak sf_kn1 (by decide) (by decide)))
      · have B39 : sf_B 0 2147483647 a1 := sf_leR (Int32.not_lt.mp c37) sf_k0 (sf_any a1)
        refine pm_R_lo pm_M66 (pc' := 5) rfl rfl rfl ?_
        refine pm_R_lo pm_M66 (pc' := 6) rfl rfl rfl ?_
        refine pm_R_get pm_M66 (pc' := 9) (v := .ref 17) rfl rfl T.e16 (by decide) (T.lt (by decide)) rfl rfl ?_
        refine pm_R_get pm_M66 (pc' := 12) (v := .ref 23) rfl rfl T.e17 (by decide) (T.lt (by decide)) rfl rfl ?_
        refine pm_R_op pm_M66 (pc' := 13) (st' := [.int 1, .ref 23, .int a1]) rfl rfl rfl ?_
        obtain ⟨z40, ez41⟩ : ∃ y, f25 (Int32.toNatClampNeg 1) = y := ⟨_, rfl⟩
        have B42 : sf_B 0 3 z40 := ez41 ▸ (b27 1)
        refine pm_R_iald pm_M66 (pc' := 14) (v := z40) rfl e26 (T.lt (by decide)) rfl ez41 rfl ?_
        refine pm_R_icmp pm_M66 (t := 21) (pc' := 17) rfl rfl rfl (fun c43 => ?_) (fun c43 => ?_)
        · have B44 : sf_B 0 2 a1 := sf_ltL c43 B39 B42
          have B45 : sf_B 1 3 z40 := sf_ltR c43 B39 B42
          refine pm_R_lo pm_M66 (pc' := 22) rfl rfl rfl ?_
          refine pm_R_get pm_M66 (pc' := 25) (v := .ref 17) rfl rfl T.e16 (by decide) (T.lt (by decide)) rfl rfl ?_
          refine pm_R_get pm_M66 (pc' := 28) (v := .ref 20) rfl rfl T.e17 (by decide) (T.lt (by decide)) rfl rfl ?_
          refine pm_R_lo pm_M66 (pc' := 29) rfl rfl rfl ?_
          obtain ⟨f46, e47, b48⟩ := T.C 20 (by decide) (by decide)
          obtain ⟨l49, hx50⟩ := cl_there1 T e26 e47 ez41 c43 B44 (by decide)
          have hk51 := b48 _ _ hx50
          refine pm_R_aald pm_M66 (pc' := 30) (v := .ref l49) rfl e47 (by decide) (by decide) (by decide) (T.lt (by decide)) (sf_in B44 (by decide) (by decide)) (by rw [hx50]; rfl) rfl ?_
          refine pm_R_ret pm_M66 (r := some (.ref l49)) rfl rfl ?_
          show pm_R _ 120 12 [.ref 16, .int a0, .int a1, .int a2, .int a3, .int a4, .ref l34, pm_no, pm_no, pm_no, pm_no, pm_no, pm_no, pm_no] [.ref l49] _ _
          refine pm_R_lo pm_M120 (pc' := 14) (ls' := [.ref 16, .int a0, .int a1, .int a2, .int a3, .int a4, .ref l34, .ref l49, pm_no, pm_no, pm_no, pm_no, pm_no, pm_no]) (st' := []) rfl rfl rfl ?_
          refine pm_R_lo pm_M120 (pc' := 16) rfl rfl rfl ?_
          refine pm_R_br pm_M120 (pc' := 19) rfl rfl ?_
          refine pm_R_lo pm_M120 (pc' := 21) rfl rfl rfl ?_
          refine pm_R_br pm_M120 (pc' := 24) rfl rfl ?_
          refine pm_R_lo pm_M120 (pc' := 25) rfl rfl rfl ?_
          refine pm_R_cs pm_M120 (pc' := 28) (ra := [.int a2]) (rest := []) (ls' := [.int a2]) rfl rfl (Or.inl rfl) pm_M110 rfl rfl (Nat.le_of_ble_eq_true rfl) rfl rfl ?_
          refine pm_R_lo pm_M110 (pc' := 1) rfl rfl rfl ?_
          refine pm_R_ifc pm_M110 (t := 14) (pc' := 4) rfl rfl rfl (fun c52 => ?_) (fun c52 => ?_)
          · have B53 : sf_B (-2147483648) (-1) a2 := sf_ltL c52 (sf_any a2) sf_k0
            refine pm_R_op pm_M110 (pc' := 15) (st' := [.int 0]) rfl rfl rfl ?_
            refine pm_R_ret pm_M110 (r := some (.int 0)) rfl rfl ?_
            show pm_R _ 120 28 [.ref 16, .int a0, .int a1, .int a2, .int a3, .int a4, .ref l34, .ref l49, pm_no, pm_no, pm_no, pm_no, pm_no, pm_no] [.int 0] _ _
            refine pm_R_br pm_M120 (pc' := 41) (st' := []) rfl rfl ?_
            refine pm_R_op pm_M120 (pc' := 42) (st' := [.int (-1)]) rfl rfl rfl ?_
            exact pm_R_ret pm_M120 (r := some (.int (-1))) rfl rfl (K (-1) m h T ((cl_F.refl (ck := ck) (A := []) (n := 0) (s := 0) T.1).weak (by decide) (by decide)) (rf_W.refl [] m) (sf_weak sf_kn1 (by decide) (by decide)))
          · have B54 : sf_B 0 2147483647 a2 := sf_leR (Int32.not_lt.mp c52) sf_k0 (sf_any a2)
            refine pm_R_lo pm_M110 (pc' := 5) rfl rfl rfl ?_
            refine pm_R_op pm_M110 (pc' := 7) (st' := [.int 9, .int a2]) rfl rfl rfl ?_
            refine pm_R_icmp pm_M110 (t := 14) (pc' := 10) rfl rfl rfl (fun c55 => ?_) (fun c55 => ?_)
            · have B56 : sf_B 10 2147483647 a2 := sf_ltR c55 sf_k9 B54
              refine pm_R_op pm_M110 (pc' := 15) (st' := [.int 0]) rfl rfl rfl ?_
              refine pm_R_ret pm_M110 (r := some (.int 0)) rfl rfl ?_
              show pm_R _ 120 28 [.ref 16, .int a0, .int a1, .int a2, .int a3, .int a4, .ref l34, .ref l49, pm_no, pm_no, pm_no, pm_no, pm_no, pm_no] [.int 0] _ _
              refine pm_R_br pm_M120 (pc' := 41) (st' := []) rfl rfl ?_
              refine pm_R_op pm_M120 (pc' := 42) (st' := [.int (-1)]) rfl rfl rfl ?_
              exact pm_R_ret pm_M120 (r := some (.int (-1))) rfl rfl (K (-1) m h T ((cl_F.refl (ck := ck) (A := []) (n := 0) (s := 0) T.1).weak (by decide) (by decide)) (rf_W.refl [] m) (sf_weak sf_kn1 (by decide) (by decide)))
            · have B57 : sf_B 0 9 a2 := sf_leL (Int32.not_lt.mp c55) B54 sf_k9
              refine pm_R_op pm_M110 (pc' := 11) (st' := [.int 1]) rfl rfl rfl ?_
              refine pm_R_br pm_M110 (pc' := 15) rfl rfl ?_
              refine pm_R_ret pm_M110 (r := some (.int 1)) rfl rfl ?_
              show pm_R _ 120 28 [.ref 16, .int a0, .int a1, .int a2, .int a3, .int a4, .ref l34, .ref l49, pm_no, pm_no, pm_no, pm_no, pm_no, pm_no] [.int 1] _ _
              refine pm_R_br pm_M120 (pc' := 31) (st' := []) rfl rfl ?_
              refine pm_R_lo pm_M120 (pc' := 33) rfl rfl rfl ?_
              refine pm_R_lo pm_M120 (pc' := 35) rfl rfl rfl ?_
              obtain ⟨n58, f59, h60, h61, eE62, eE63, b64⟩ := (G.2.2.1 l49 hk51).2
              have kq65 := (G.2.2.1 l49 hk51).1
              refine pm_R_cv pm_M120 (pc' := 38) (a := l49) (ra := [.int a4]) (rest := []) (ls' := [.ref l49, .int a4]) rfl rfl (Or.inl rfl) pm_M67 (T.im hk51 (by decide) (by decide) eE62) rfl (G.ge hk51 (by decide)) (T.al hk51 (by decide)) rfl rfl (Nat.le_of_ble_eq_true rfl) rfl rfl ?_
              refine pm_R_lo pm_M67 (pc' := 1) rfl rfl rfl ?_
              refine pm_R_ifc pm_M67 (t := 16) (pc' := 4) rfl rfl rfl (fun c66 => ?_) (fun c66 => ?_)
              · have B67 : sf_B (-2147483648) (-1) a4 := sf_ltL c66 (sf_any a4) sf_k0
                refine pm_R_op pm_M67 (pc' := 17) (st' := [.int 0]) rfl rfl rfl ?_
                refine pm_R_ret pm_M67 (r := some (.int 0)) rfl rfl ?_
                show pm_R _ 120 38 [.ref 16, .int a0, .int a1, .int a2, .int a3, .int a4, .ref l34, .ref l49, pm_no, pm_no, pm_no, pm_no, pm_no, pm_no] [.int 0] _ _
                refine pm_R_br pm_M120 (pc' := 41) (st' := []) rfl rfl ?_
                refine pm_R_op pm_M120 (pc' := 42) (st' := [.int (-1)]) rfl rfl rfl ?_
                exact pm_R_ret pm_M120 (r := some (.int (-1))) rfl rfl (K (-1) m h T ((cl_F.refl (ck := ck) (A := []) (n := 0) (s := 0) T.1).weak (by decide) (by decide)) (rf_W.refl [] m) (sf_weak sf_kn1 (by decide) (by decide)))
              · have B68 : sf_B 0 2147483647 a4 := sf_leR (Int32.not_lt.mp c66) sf_k0 (sf_any a4)
                refine pm_R_lo pm_M67 (pc' := 5) rfl rfl rfl ?_
                refine pm_R_lo pm_M67 (pc' := 6) rfl rfl rfl ?_
                refine pm_R_get pm_M67 (pc' := 9) (v := .int (Int32.ofNat n58)) rfl rfl (T.im hk51 (by decide) (by decide) eE62) (G.ge hk51 (by decide)) (T.al hk51 (by decide)) rfl rfl ?_
                refine pm_R_icmp pm_M67 (t := 16) (pc' := 12) rfl rfl rfl (fun c69 => ?_) (fun c69 => ?_)
                · have B70 : sf_B 1 2147483647 a4 := sf_leR c69 (sf_ofB1 h61 h60 (by decide)) B68
                  refine pm_R_op pm_M67 (pc' := 17) (st' := [.int 0]) rfl rfl rfl ?_
                  refine pm_R_ret pm_M67 (r := some (.int 0)) rfl rfl ?_
                  show pm_R _ 120 38 [.ref 16, .int a0, .int a1, .int a2, .int a3, .int a4, .ref l34, .ref l49, pm_no, pm_no, pm_no, pm_no, pm_no, pm_no] [.int 0] _ _
                  refine pm_R_br pm_M120 (pc' := 41) (st' := []) rfl rfl ?_
                  refine pm_R_op pm_M120 (pc' := 42) (st' := [.int (-1)]) rfl rfl rfl ?_
                  exact pm_R_ret pm_M120 (r := some (.int (-1))) rfl rfl (K (-1) m h T ((cl_F.refl (ck := ck) (A := []) (n := 0) (s := 0) T.1).weak (by decide) (by decide)) (rf_W.refl [] m) (sf_weak sf_kn1 (by decide) (by decide)))
                · have B71 : sf_B 0 11 a4 := sf_ltL (Int32.not_le.mp c69) B68 (sf_ofB1 h61 h60 (by decide))
                  refine pm_R_op pm_M67 (pc' := 13) (st' := [.int 1]) rfl rfl rfl ?_
                  refine pm_R_br pm_M67 (pc' := 17) rfl rfl ?_
                  refine pm_R_ret pm_M67 (r := some (.int 1)) rfl rfl ?_
                  show pm_R _ 120 38 [.ref 16, .int a0, .int a1, .int a2, .int a3, .int a4, .ref l34, .ref l49, pm_no, pm_no, pm_no, pm_no, pm_no, pm_no] [.int 1] _ _
                  refine pm_R_br pm_M120 (pc' := 43) (st' := []) rfl rfl ?_
                  refine pm_R_lo pm_M120 (pc' := 45) rfl rfl rfl ?_
                  refine pm_R_lo pm_M120 (pc' := 47) (ls' := [.ref 16, .int a0, .int a1, .int a2, .int a3, .int a4, .ref l34, .ref l49, .int a3, pm_no, pm_no, pm_no, pm_no, pm_no]) (st' := []) rfl rfl rfl ?_
                  refine pm_R_lo pm_M120 (pc' := 49) rfl rfl rfl ?_
                  refine pm_R_get pm_M120 (pc' := 52) (v := .ref (l49 + 1)) rfl rfl (T.im hk51 (by decide) (by decide) eE62) (G.ge hk51 (by decide)) (T.al hk51 (by decide)) rfl rfl ?_
                  refine cl_R_clone G pm_M120 T (pc' := 55) rfl rfl rfl (T.im kq65 (by decide) (by decide) eE63) (G.ge kq65 (by decide)) (T.al kq65 (by decide)) (Nat.le_of_ble_eq_true rfl) rfl (fun t72 h73 T74 F75 ht76 hu780 e77 => ?_)
                  have hu78 := Nat.le_trans (cl_F.refl (ck := ck) (A := []) (n := 0) (s := 0) T.1).2.1 (Nat.le_of_eq hu780)
                  have F79 : cl_F ck [] 1 12 _ _ := F75.weak (Nat.le_refl _) h61
                  have F80 := (cl_F.refl (ck := ck) (A := []) (n := 0) (s := 0) T.1).trans (N := 1) (S := 12) F79 (by decide) (by decide) (by decide)
                  refine cl_R_cast pm_M120 (pc' := 58) rfl rfl e77 (Nat.le_trans (by decide) ht76.1) ht76.2.2 rfl ?_
                  refine pm_R_lo pm_M120 (pc' := 60) (ls' := [.ref 16, .int a0, .int a1, .int a2, .int a3, .int a4, .ref l34, .ref l49, .int a3, .ref t72, pm_no, pm_no, pm_no, pm_no]) (st' := []) rfl rfl rfl ?_
                  refine pm_R_op pm_M120 (pc' := 61) (st' := [.int 0]) rfl rfl rfl ?_
                  refine pm_R_lo pm_M120 (pc' := 63) (ls' := [.ref 16, .int a0, .int a1, .int a2, .int a3, .int a4, .ref l34, .ref l49, .int a3, .ref t72, .int 0, pm_no, pm_no, pm_no]) (st' := []) rfl rfl rfl ?_
                  have L_2671 : ∀ (N : Nat) (h_2671 : pm_H) (m_2671 : Nat → Int32) (x8_2671 : Int32) (x10_2671 : Int32) (g11_2671 : Value) (g12_2671 : Value) (g13_2671 : Value), cl_T ck E m_2671 o h_2671 → cl_F ck [] 1 12 h h_2671 → rf_W [] m m_2671 → sf_B (-2147483648) 2147483647 x8_2671 → sf_B 0 9 x10_2671 → g11_2671.category = 1 → g12_2671.category = 1 → g13_2671.category = 1 → (cl_t ck t72 h_2671 ∧ ∃ f : Nat → Int32, h_2671.2.2 t72 = .inl (0, n58, .inl f) ∧ ∀ j, sf_B 0 9 (f j)) → (9 - x10_2671.toInt).toNat = N → pm_R (d + 2) 120 63 [.ref 16, .int a0, .int a1, .int a2, .int a3, .int a4, .ref l34, .ref l49, .int x8_2671, .ref t72, .int x10_2671, g11_2671, g12_2671, g13_2671] [] h_2671 Q := by
                    intro N
                    induction N using Nat.strongRecOn with
                    | ind N ih_2671 =>
                      intro h_2671 m_2671 x8_2671 x10_2671 g11_2671 g12_2671 g13_2671 T_2671 F_2671 W_2671 Bx8_2671 Bx10_2671 Cg11_2671 Cg12_2671 Cg13_2671 X_2671 hN_2671
                      have W2674 : rf_W [] m m_2671 := (rf_W.refl [] m).trans W_2671 (by decide)
                      obtain ⟨f2675, e2676, b2677⟩ := X_2671.2
                      refine pm_R_lo pm_M120 (pc' := 65) rfl rfl rfl ?_
                      refine pm_R_lo pm_M120 (pc' := 66) rfl rfl rfl ?_
                      refine pm_R_icmp pm_M120 (t := 154) (pc' := 69) rfl rfl rfl (fun c2678 => ?_) (fun c2678 => ?_)
                      · skip
                        refine pm_R_lo pm_M120 (pc' := 156) (pm_q120_1 (Nat.le_of_ble_eq_true rfl)) rfl rfl ?_
                        refine pm_R_lo pm_M120 (pc' := 158) (pm_q120_1 (Nat.le_of_ble_eq_true rfl)) rfl rfl ?_
                        have q2682 := cl_in1 (n := n58) (Nat.le_trans h61 (by decide)) (Int32.not_le.mp c69) B71 (by decide)
                        obtain ⟨z2679, ez2680⟩ : ∃ y, f2675 (Int32.toNatClampNeg a4) = y := ⟨_, rfl⟩
                        have B2681 : sf_B 0 9 z2679 := ez2680 ▸ b2677 _
                        refine pm_R_iald pm_M120 (pc' := 159) (v := z2679) (pm_q120_1 (Nat.le_of_ble_eq_true rfl)) e2676 X_2671.1.2.2 q2682.1 ez2680 rfl ?_
                        exact pm_R_ret pm_M120 (r := some (.int z2679)) (pm_q120_1 (Nat.le_of_ble_eq_true rfl)) (pm_ret_i _) (K z2679 m_2671 h_2671 T_2671 F_2671 W2674 (sf_weak B2681 (by decide) (by decide)))
                      · have B2683 : sf_B 0 8 x10_2671 := sf_ltL (Int32.not_le.mp c2678) Bx10_2671 B57
                        have B2684 : sf_B 1 9 a2 := sf_ltR (Int32.not_le.mp c2678) Bx10_2671 B57
                        refine pm_R_op pm_M120 (pc' := 70) (st' := [.int 0]) rfl rfl rfl ?_
                        refine pm_R_lo pm_M120 (pc' := 72) (ls' := [.ref 16, .int a0, .int a1, .int a2, .int a3, .int a4, .ref l34, .ref l49, .int x8_2671, .ref t72, .int x10_2671, .int 0, g12_2671, g13_2671]) (st' := []) rfl rfl rfl ?_
                        have L_3186 : ∀ (N : Nat) (h_3186 : pm_H) (m_3186 : Nat → Int32) (x8_3186 : Int32) (x11_3186 : Int32) (g12_3186 : Value) (g13_3186 : Value), cl_T ck E m_3186 o h_3186 → cl_F ck [] 1 12 h h_3186 → rf_W [] m_2671 m_3186 → sf_B (-2147483648) 2147483647 x8_3186 → sf_B 0 12 x11_3186 → g12_3186.category = 1 → g13_3186.category = 1 → (cl_t ck t72 h_3186 ∧ ∃ f : Nat → Int32, h_3186.2.2 t72 = .inl (0, n58, .inl f) ∧ ∀ j, sf_B 0 9 (f j)) → (12 - x11_3186.toInt).toNat = N → pm_R (d + 2) 120 72 [.ref 16, .int a0, .int a1, .int a2, .int a3, .int a4, .ref l34, .ref l49, .int x8_3186, .ref t72, .int x10_2671, .int x11_3186, g12_3186, g13_3186] [] h_3186 Q := by
                          intro N
                          induction N using Nat.strongRecOn with
                          | ind N ih_3186 =>
                            intro h_3186 m_3186 x8_3186 x11_3186 g12_3186 g13_3186 T_3186 F_3186 W_3186 Bx8_3186 Bx11_3186 Cg12_3186 Cg13_3186 X_3186 hN_3186
                            have W3189 : rf_W [] m m_3186 := W2674.trans W_3186 (by decide)
                            have W3190 : rf_W [] m m_3186 := W_2671.trans W_3186 (by decide)
                            obtain ⟨f3191, e3192, b3193⟩ := X_3186.2
                            refine pm_R_lo pm_M120 (pc' := 74) rfl rfl rfl ?_
                            refine pm_R_lo pm_M120 (pc' := 76) rfl rfl rfl ?_
                            refine pm_R_get pm_M120 (pc' := 79) (v := .int (Int32.ofNat n58)) rfl rfl (T_3186.im hk51 (by decide) (by decide) eE62) (G.ge hk51 (by decide)) (T_3186.al hk51 (by decide)) rfl rfl ?_
                            refine pm_R_icmp pm_M120 (t := 148) (pc' := 82) rfl rfl rfl (fun c3194 => ?_) (fun c3194 => ?_)
                            · have B3195 : sf_B 1 12 x11_3186 := sf_leR c3194 (sf_ofB1 h61 h60 (by decide)) Bx11_3186
                              refine sf_R_iinc pm_M120 (pc' := 151) (ls' := fun z => [.ref 16, .int a0, .int a1, .int a2, .int a3, .int a4, .ref l34, .ref l49, .int x8_3186, .ref t72, .int z, .int x11_3186, g12_3186, g13_3186]) (pm_q120_1 (Nat.le_of_ble_eq_true rfl)) B2683 rfl (by decide) (by decide) (by decide) (fun _ => rfl) rfl (fun z3196 e3197 B3198 => ?_)
                              show pm_R _ 120 151 [.ref 16, .int a0, .int a1, .int a2, .int a3, .int a4, .ref l34, .ref l49, .int x8_3186, .ref t72, .int z3196, .int x11_3186, g12_3186, g13_3186] [] _ _
                              refine pm_R_br pm_M120 (pc' := 63) (pm_q120_1 (Nat.le_of_ble_eq_true rfl)) rfl ?_
                              exact ih_2671 _ (sf_up hN_2671 e3197 B2683 (by decide) (by decide)) h_3186 m_3186 x8_3186 z3196 (.int x11_3186) (g12_3186) (g13_3186) T_3186 F_3186 W3190 Bx8_3186 (sf_weak B3198 (by decide) (by decide)) rfl Cg12_3186 Cg13_3186 ⟨X_3186.1, _, e3192, b3193⟩ rfl
                            · have B3199 : sf_B 0 11 x11_3186 := sf_ltL (Int32.not_le.mp c3194) Bx11_3186 (sf_ofB1 h61 h60 (by decide))
                              refine pm_R_lo pm_M120 (pc' := 84) rfl rfl rfl ?_
                              refine pm_R_ldcw pm_M120 (pc' := 87) rfl rfl rfl ?_
                              refine sf_R_iany pm_M120 (pc' := 88) (st := []) rfl rfl rfl (fun z3203 => ?_)
                              refine pm_R_op pm_M120 (pc' := 91) (st' := [.int 12345, .int z3203]) rfl rfl rfl ?_
                              refine sf_R_iany pm_M120 (pc' := 92) (st := []) rfl rfl rfl (fun z3207 => ?_)
                              refine pm_R_lo pm_M120 (pc' := 94) (ls' := [.ref 16, .int a0, .int a1, .int a2, .int a3, .int a4, .ref l34, .ref l49, .int z3207, .ref t72, .int x10_2671, .int x11_3186, g12_3186, g13_3186]) (st' := []) rfl rfl rfl ?_
                              refine pm_R_lo pm_M120 (pc' := 96) rfl rfl rfl ?_
                              obtain ⟨rc3208, tc3209, rs3210, fv3211, fw3212, fr3213, ft3214, fn3215, h3216, h3217, B3218, eE3219, eE3220, eE3221, eE3222, eE3223, eE3224, b3225, b3226, b3227⟩ := (G.2.1 l34 hk36).2.2.2.2.2
                              have kq3228 := G.2.1 l34 hk36
                              refine pm_R_get pm_M120 (pc' := 99) (v := .ref (l34 + 5)) rfl rfl (T_3186.im hk36 (by decide) (by decide) eE3219) (G.ge hk36 (by decide)) (T_3186.al hk36 (by decide)) rfl rfl ?_
                              refine pm_R_lo pm_M120 (pc' := 101) rfl rfl rfl ?_
                              refine pm_R_lo pm_M120 (pc' := 103) rfl rfl rfl ?_
                              have q3232 := cl_in1 (n := n58) (Nat.le_trans h61 (by decide)) (Int32.not_le.mp c3194) B3199 (by decide)
                              obtain ⟨z3229, ez3230⟩ : ∃ y, f3191 (Int32.toNatClampNeg x11_3186) = y := ⟨_, rfl⟩
                              have B3231 : sf_B 0 9 z3229 := ez3230 ▸ b3193 _
                              refine pm_R_iald pm_M120 (pc' := 104) (v := z3229) rfl e3192 X_3186.1.2.2 q3232.1 ez3230 rfl ?_
                              obtain ⟨z3233, ez3234⟩ : ∃ y, fn3215 (Int32.toNatClampNeg z3229) = y := ⟨_, rfl⟩
                              have B3235 : sf_B 0 1023 z3233 := ez3234 ▸ b3227 _
                              refine pm_R_iald pm_M120 (pc' := 105) (v := z3233) rfl (T_3186.im kq3228.2.2.2.2.1 (by decide) (by decide) eE3224) (T_3186.al kq3228.2.2.2.2.1 (by decide)) (sf_in B3231 (by decide) (by decide)) ez3234 rfl ?_
                              refine pm_R_lo pm_M120 (pc' := 107) (ls' := [.ref 16, .int a0, .int a1, .int a2, .int a3, .int a4, .ref l34, .ref l49, .int z3207, .ref t72, .int x10_2671, .int x11_3186, .int z3233, g13_3186]) (st' := []) rfl rfl rfl ?_
                              refine pm_R_lo pm_M120 (pc' := 109) rfl rfl rfl ?_
                              refine pm_R_op pm_M120 (pc' := 111) (st' := [.int 16, .int z3207]) rfl rfl rfl ?_
                              refine sf_R_iushr16 pm_M120 (pc' := 112) rfl rfl (fun z3236 B3238 => ?_)
                              refine pm_R_op pm_M120 (pc' := 113) (st' := [.int 1, .int z3236]) rfl rfl rfl ?_
                              refine pm_R_lo pm_M120 (pc' := 115) rfl rfl rfl ?_
                              refine pm_R_cs pm_M120 (pc' := 118) (ra := [.int z3233]) (rest := [.int 1, .int z3236]) (ls' := [.int z3233]) rfl rfl (Or.inl rfl) pm_M116 rfl rfl (Nat.le_of_ble_eq_true rfl) rfl rfl ?_
                              refine cl_e116 (d := d + 1) ?_
                              have B3239 : sf_B 0 10 (cl_bi z3233) := cl_bi_B B3235
                              show pm_R _ 120 118 [.ref 16, .int a0, .int a1, .int a2, .int a3, .int a4, .ref l34, .ref l49, .int z3207, .ref t72, .int x10_2671, .int x11_3186, .int z3233, g13_3186] [.int (cl_bi z3233), .int 1, .int z3236] _ _
                              refine sf_R_iadd pm_M120 (pc' := 119) rfl rfl sf_k1 B3239 (by decide) (by decide) (fun z3240 e3241 B3242 => ?_)
                              refine sf_R_irem pm_M120 (pc' := 120) rfl rfl B3238 B3242 (by decide) (by decide) (fun z3243 e3244 B3245 => ?_)
                              refine pm_R_lo pm_M120 (pc' := 122) (ls' := [.ref 16, .int a0, .int a1, .int a2, .int a3, .int a4, .ref l34, .ref l49, .int z3207, .ref t72, .int x10_2671, .int x11_3186, .int z3233, .int z3243]) (st' := []) (pm_q120_1 (Nat.le_of_ble_eq_true rfl)) rfl rfl ?_
                              refine pm_R_lo pm_M120 (pc' := 124) (pm_q120_1 (Nat.le_of_ble_eq_true rfl)) rfl rfl ?_
                              refine pm_R_ifc pm_M120 (t := 142) (pc' := 127) (pm_q120_1 (Nat.le_of_ble_eq_true rfl)) rfl rfl (fun c3246 => ?_) (fun c3246 => ?_)
                              · have B3247 : sf_B 0 0 z3243 := sf_leL c3246 B3245 sf_k0
                                refine sf_R_iinc pm_M120 (pc' := 145) (ls' := fun z => [.ref 16, .int a0, .int a1, .int a2, .int a3, .int a4, .ref l34, .ref l49, .int z3207, .ref t72, .int x10_2671, .int z, .int z3233, .int z3243]) (pm_q120_1 (Nat.le_of_ble_eq_true rfl)) B3199 rfl (by decide) (by decide) (by decide) (fun _ => rfl) rfl (fun z3248 e3249 B3250 => ?_)
                                show pm_R _ 120 145 [.ref 16, .int a0, .int a1, .int a2, .int a3, .int a4, .ref l34, .ref l49, .int z3207, .ref t72, .int x10_2671, .int z3248, .int z3233, .int z3243] [] _ _
                                refine pm_R_br pm_M120 (pc' := 72) (pm_q120_1 (Nat.le_of_ble_eq_true rfl)) rfl ?_
                                exact ih_3186 _ (sf_up hN_3186 e3249 B3199 (by decide) (by decide)) h_3186 m_3186 z3207 z3248 (.int z3233) (.int z3243) T_3186 F_3186 W_3186 (sf_any z3207) (sf_weak B3250 (by decide) (by decide)) rfl rfl ⟨X_3186.1, _, e3192, b3193⟩ rfl
                              · have B3251 : sf_B 1 10 z3243 := sf_ltR (Int32.not_le.mp c3246) sf_k0 B3245
                                refine pm_R_lo pm_M120 (pc' := 129) (pm_q120_1 (Nat.le_of_ble_eq_true rfl)) rfl rfl ?_
                                refine pm_R_lo pm_M120 (pc' := 131) (pm_q120_1 (Nat.le_of_ble_eq_true rfl)) rfl rfl ?_
                                refine pm_R_lo pm_M120 (pc' := 133) (pm_q120_1 (Nat.le_of_ble_eq_true rfl)) rfl rfl ?_
                                refine sf_R_i2l pm_M120 (pc' := 134) (pm_q120_1 (Nat.le_of_ble_eq_true rfl)) rfl B3235 (fun z3252 e3253 B3254 => ?_)
                                refine pm_R_lo pm_M120 (pc' := 136) (pm_q120_1 (Nat.le_of_ble_eq_true rfl)) rfl rfl ?_
                                refine pm_R_op pm_M120 (pc' := 137) (st' := [.int 1, .int z3243, .long z3252, .int x11_3186, .ref t72]) (pm_q120_1 (Nat.le_of_ble_eq_true rfl)) rfl rfl ?_
                                refine sf_R_isub pm_M120 (pc' := 138) (pm_q120_1 (Nat.le_of_ble_eq_true rfl)) rfl B3251 sf_k1 (by decide) (by decide) (fun z3255 e3256 B3257 => ?_)
                                refine pm_R_cs pm_M120 (pc' := 141) (ra := [.int z3255, .long z3252]) (rest := [.int x11_3186, .ref t72]) (ls' := [.long z3252, pm_no, .int z3255, pm_no, pm_no, pm_no]) (pm_q120_1 (Nat.le_of_ble_eq_true rfl)) rfl (Or.inl rfl) pm_M107 rfl rfl (Nat.le_of_ble_eq_true rfl) rfl rfl ?_
                                refine cl_c107_d (d := d + 0) B3235 e3253 (Int.le_trans (by decide) B3257.1) (cl_aux23 _ _ _ _ e3256 e3241 (cl_remlt e3244 B3242 (by decide))) (fun r3258 B3259 => ?_)
                                show pm_R _ 120 141 [.ref 16, .int a0, .int a1, .int a2, .int a3, .int a4, .ref l34, .ref l49, .int z3207, .ref t72, .int x10_2671, .int x11_3186, .int z3233, .int z3243] [.int r3258, .int x11_3186, .ref t72] _ _
                                have q3260 := cl_in1 (n := n58) (Nat.le_trans h61 (by decide)) (Int32.not_le.mp c3194) B3199 (by decide)
                                refine cl_R_tst G pm_M120 T_3186 (pc' := 142) (pm_q120_1 (Nat.le_of_ble_eq_true rfl)) e3192 X_3186.1 q3260.1 rfl (fun h3261 T3262 F3263 e3264 => ?_)
                                have F3265 := F_3186.transT F3263 hu78
                                refine sf_R_iinc pm_M120 (pc' := 145) (ls' := fun z => [.ref 16, .int a0, .int a1, .int a2, .int a3, .int a4, .ref l34, .ref l49, .int z3207, .ref t72, .int x10_2671, .int z, .int z3233, .int z3243]) (pm_q120_1 (Nat.le_of_ble_eq_true rfl)) B3199 rfl (by decide) (by decide) (by decide) (fun _ => rfl) rfl (fun z3266 e3267 B3268 => ?_)
                                show pm_R _ 120 145 [.ref 16, .int a0, .int a1, .int a2, .int a3, .int a4, .ref l34, .ref l49, .int z3207, .ref t72, .int x10_2671, .int z3266, .int z3233, .int z3243] [] _ _
                                refine pm_R_br pm_M120 (pc' := 72) (pm_q120_1 (Nat.le_of_ble_eq_true rfl)) rfl ?_
                                have ht3269 := (X_3186.1.F F3263)
                                exact ih_3186 _ (sf_up hN_3186 e3267 B3199 (by decide) (by decide)) h3261 m_3186 z3207 z3266 (.int z3233) (.int z3243) T3262 F3265 W_3186 (sf_any z3207) (sf_weak B3268 (by decide) (by decide)) rfl rfl ⟨ht3269, _, e3264, (sf_upd b3193 B3259 _)⟩ rfl
                        exact L_3186 _ h_2671 m_2671 x8_2671 0 (g12_2671) (g13_2671) T_2671 F_2671 (rf_W.refl _ _) Bx8_2671 (sf_weak sf_k0 (by decide) (by decide)) Cg12_2671 Cg13_2671 ⟨X_2671.1, _, e2676, b2677⟩ rfl
                  exact L_2671 _ h73 m a3 0 (pm_no) (pm_no) (pm_no) T74 F80 (rf_W.refl _ _) (sf_any a3) (sf_weak sf_k0 (by decide) (by decide)) rfl rfl rfl ⟨ht76, _, e77, b64⟩ rfl
        · skip
          refine pm_R_op pm_M66 (pc' := 18) (st' := [.null]) rfl rfl rfl ?_
          refine pm_R_br pm_M66 (pc' := 30) rfl rfl ?_
          refine pm_R_ret pm_M66 (r := some (.null)) rfl rfl ?_
          show pm_R _ 120 12 [.ref 16, .int a0, .int a1, .int a2, .int a3, .int a4, .ref l34, pm_no, pm_no, pm_no, pm_no, pm_no, pm_no, pm_no] [.null] _ _
          refine pm_R_lo pm_M120 (pc' := 14) (ls' := [.ref 16, .int a0, .int a1, .int a2, .int a3, .int a4, .ref l34, .null, pm_no, pm_no, pm_no, pm_no, pm_no, pm_no]) (st' := []) rfl rfl rfl ?_
          refine pm_R_lo pm_M120 (pc' := 16) rfl rfl rfl ?_
          refine pm_R_br pm_M120 (pc' := 19) rfl rfl ?_
          refine pm_R_lo pm_M120 (pc' := 21) rfl rfl rfl ?_
          refine pm_R_br pm_M120 (pc' := 41) rfl rfl ?_
          refine pm_R_op pm_M120 (pc' := 42) (st' := [.int (-1)]) rfl rfl rfl ?_
          exact pm_R_ret pm_M120 (r := some (.int (-1))) rfl rfl (K (-1) m h T ((cl_F.refl (ck := ck) (A := []) (n := 0) (s := 0) T.1).weak (by decide) (by decide)) (rf_W.refl [] m) (sf_weak sf_kn1 (by decide) (by decide)))
    · skip
      refine pm_R_op pm_M62 (pc' := 18) (st' := [.null]) rfl rfl rfl ?_
      refine pm_R_br pm_M62 (pc' := 30) rfl rfl ?_
      refine pm_R_ret pm_M62 (r := some (.null)) rfl rfl ?_
      show pm_R _ 120 5 [.ref 16, .int a0, .int a1, .int a2, .int a3, .int a4, pm_no, pm_no, pm_no, pm_no, pm_no, pm_no, pm_no, pm_no] [.null] _ _
      refine pm_R_lo pm_M120 (pc' := 7) (ls' := [.ref 16, .int a0, .int a1, .int a2, .int a3, .int a4, .null, pm_no, pm_no, pm_no, pm_no, pm_no, pm_no, pm_no]) (st' := []) rfl rfl rfl ?_
      refine pm_R_lo pm_M120 (pc' := 8) rfl rfl rfl ?_
      refine pm_R_lo pm_M120 (pc' := 9) rfl rfl rfl ?_
      refine pm_R_cv pm_M120 (pc' := 12) (a := 16) (ra := [.int a1]) (rest := []) (ls' := [.ref 16, .int a1]) rfl rfl (Or.inl rfl) pm_M66 T.e16 rfl (by decide) (T.lt (by decide)) rfl rfl (Nat.le_of_ble_eq_true rfl) rfl rfl ?_
      refine pm_R_lo pm_M66 (pc' := 1) rfl rfl rfl ?_
      refine pm_R_ifc pm_M66 (t := 17) (pc' := 4) rfl rfl rfl (fun c3270 => ?_) (fun c3270 => ?_)
      · have B3271 : sf_B (-2147483648) (-1) a1 := sf_ltL c3270 (sf_any a1) sf_k0
        refine pm_R_op pm_M66 (pc' := 18) (st' := [.null]) rfl rfl rfl ?_
        refine pm_R_br pm_M66 (pc' := 30) rfl rfl ?_
        refine pm_R_ret pm_M66 (r := some (.null)) rfl rfl ?_
        show pm_R _ 120 12 [.ref 16, .int a0, .int a1, .int a2, .int a3, .int a4, .null, pm_no, pm_no, pm_no, pm_no, pm_no, pm_no, pm_no] [.null] _ _
        refine pm_R_lo pm_M120 (pc' := 14) (ls' := [.ref 16, .int a0, .int a1, .int a2, .int a3, .int a4, .null, .null, pm_no, pm_no, pm_no, pm_no, pm_no, pm_no]) (st' := []) rfl rfl rfl ?_
        refine pm_R_lo pm_M120 (pc' := 16) rfl rfl rfl ?_
        refine pm_R_br pm_M120 (pc' := 41) rfl rfl ?_
        refine pm_R_op pm_M120 (pc' := 42) (st' := [.int (-1)]) rfl rfl rfl ?_
        exact pm_R_ret pm_M120 (r := some (.int (-1))) rfl rfl (K (-1) m h T ((cl_F.refl (ck := ck) (A := []) (n := 0) (s := 0) T.1).weak (by decide) (by decide)) (rf_W.refl [] m) (sf_weak sf_kn1 (by decide) (by decide)))
      · have B3272 : sf_B 0 2147483647 a1 := sf_leR (Int32.not_lt.mp c3270) sf_k0 (sf_any a1)
        refine pm_R_lo pm_M66 (pc' := 5) rfl rfl rfl ?_
        refine pm_R_lo pm_M66 (pc' := 6) rfl rfl rfl ?_
        refine pm_R_get pm_M66 (pc' := 9) (v := .ref 17) rfl rfl T.e16 (by decide) (T.lt (by decide)) rfl rfl ?_
        refine pm_R_get pm_M66 (pc' := 12) (v := .ref 23) rfl rfl T.e17 (by decide) (T.lt (by decide)) rfl rfl ?_
        refine pm_R_op pm_M66 (pc' := 13) (st' := [.int 1, .ref 23, .int a1]) rfl rfl rfl ?_
        obtain ⟨z3273, ez3274⟩ : ∃ y, f25 (Int32.toNatClampNeg 1) = y := ⟨_, rfl⟩
        have B3275 : sf_B 0 3 z3273 := ez3274 ▸ (b27 1)
        refine pm_R_iald pm_M66 (pc' := 14) (v := z3273) rfl e26 (T.lt (by decide)) rfl ez3274 rfl ?_
        refine pm_R_icmp pm_M66 (t := 21) (pc' := 17) rfl rfl rfl (fun c3276 => ?_) (fun c3276 => ?_)
        · have B3277 : sf_B 0 2 a1 := sf_ltL c3276 B3272 B3275
          have B3278 : sf_B 1 3 z3273 := sf_ltR c3276 B3272 B3275
          refine pm_R_lo pm_M66 (pc' := 22) rfl rfl rfl ?_
          refine pm_R_get pm_M66 (pc' := 25) (v := .ref 17) rfl rfl T.e16 (by decide) (T.lt (by decide)) rfl rfl ?_
          refine pm_R_get pm_M66 (pc' := 28) (v := .ref 20) rfl rfl T.e17 (by decide) (T.lt (by decide)) rfl rfl ?_
          refine pm_R_lo pm_M66 (pc' := 29) rfl rfl rfl ?_
          obtain ⟨f3279, e3280, b3281⟩ := T.C 20 (by decide) (by decide)
          obtain ⟨l3282, hx3283⟩ := cl_there1 T e26 e3280 ez3274 c3276 B3277 (by decide)
          have hk3284 := b3281 _ _ hx3283
          refine pm_R_aald pm_M66 (pc' := 30) (v := .ref l3282) rfl e3280 (by decide) (by decide) (by decide) (T.lt (by decide)) (sf_in B3277 (by decide) (by decide)) (by rw [hx3283]; rfl) rfl ?_
          refine pm_R_ret pm_M66 (r := some (.ref l3282)) rfl rfl ?_
          show pm_R _ 120 12 [.ref 16, .int a0, .int a1, .int a2, .int a3, .int a4, .null, pm_no, pm_no, pm_no, pm_no, pm_no, pm_no, pm_no] [.ref l3282] _ _
          refine pm_R_lo pm_M120 (pc' := 14) (ls' := [.ref 16, .int a0, .int a1, .int a2, .int a3, .int a4, .null, .ref l3282, pm_no, pm_no, pm_no, pm_no, pm_no, pm_no]) (st' := []) rfl rfl rfl ?_
          refine pm_R_lo pm_M120 (pc' := 16) rfl rfl rfl ?_
          refine pm_R_br pm_M120 (pc' := 41) rfl rfl ?_
          refine pm_R_op pm_M120 (pc' := 42) (st' := [.int (-1)]) rfl rfl rfl ?_
          exact pm_R_ret pm_M120 (r := some (.int (-1))) rfl rfl (K (-1) m h T ((cl_F.refl (ck := ck) (A := []) (n := 0) (s := 0) T.1).weak (by decide) (by decide)) (rf_W.refl [] m) (sf_weak sf_kn1 (by decide) (by decide)))
        · skip
          refine pm_R_op pm_M66 (pc' := 18) (st' := [.null]) rfl rfl rfl ?_
          refine pm_R_br pm_M66 (pc' := 30) rfl rfl ?_
          refine pm_R_ret pm_M66 (r := some (.null)) rfl rfl ?_
          show pm_R _ 120 12 [.ref 16, .int a0, .int a1, .int a2, .int a3, .int a4, .null, pm_no, pm_no, pm_no, pm_no, pm_no, pm_no, pm_no] [.null] _ _
          refine pm_R_lo pm_M120 (pc' := 14) (ls' := [.ref 16, .int a0, .int a1, .int a2, .int a3, .int a4, .null, .null, pm_no, pm_no, pm_no, pm_no, pm_no, pm_no]) (st' := []) rfl rfl rfl ?_
          refine pm_R_lo pm_M120 (pc' := 16) rfl rfl rfl ?_
          refine pm_R_br pm_M120 (pc' := 41) rfl rfl ?_
          refine pm_R_op pm_M120 (pc' := 42) (st' := [.int (-1)]) rfl rfl rfl ?_
          exact pm_R_ret pm_M120 (r := some (.int (-1))) rfl rfl (K (-1) m h T ((cl_F.refl (ck := ck) (A := []) (n := 0) (s := 0) T.1).weak (by decide) (by decide)) (rf_W.refl [] m) (sf_weak sf_kn1 (by decide) (by decide)))
