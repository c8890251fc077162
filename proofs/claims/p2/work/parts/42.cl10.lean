theorem cl_aux16 (v0 : Int) (q0 : 1 ≤ v0) : 0 < v0 := by omega
theorem cl_aux17 (v0 v1 : Int) (q0 : v0 = v1 - 1) : v0 < v1 := by omega
set_option maxRecDepth 100000 in
set_option maxHeartbeats 4000000 in
/-- SilentTable.tree -/
theorem cl_c90 {d : Nat} {ck : cl_K} {E : Nat → pm_E} {m : Nat → Int32} {o : Nat → Option Nat} {h : pm_H} {Q : Option Value → pm_H → Prop} {a0 : Int32} {a1 : Int32} {a2 : Int64} {a3 : Int32} (G : cl_G ck E) (T : cl_T ck E m o h)  (K : ∀ (r : Int32) (m' : Nat → Int32) (o' : Nat → Option Nat) (h' : pm_H), cl_T ck E m' o' h' → cl_F ck [33, 34, 35] 0 0 h h' → rf_W [14, 15] m m' → Q (some (.int r)) h') : pm_R (d + 4) 90 0 [.ref 16, .int a0, .int a1, .long a2, pm_no, .int a3, pm_no, pm_no, pm_no, pm_no, pm_no] [] h Q := by
  refine pm_R_lo pm_M90 (pc' := 1) rfl rfl rfl ?_
  refine pm_R_lo pm_M90 (pc' := 2) rfl rfl rfl ?_
  refine pm_R_cv pm_M90 (pc' := 5) (a := 16) (ra := [.int a0]) (rest := []) (ls' := [.ref 16, .int a0]) rfl rfl (Or.inl rfl) pm_M62 T.e16 rfl (by decide) (T.lt (by decide)) rfl rfl (Nat.le_of_ble_eq_true rfl) rfl rfl ?_
  refine pm_R_lo pm_M62 (pc' := 1) rfl rfl rfl ?_
  refine pm_R_ifc pm_M62 (t := 17) (pc' := 4) rfl rfl rfl (fun c1 => ?_) (fun c1 => ?_)
  · have B2 : sf_B (-2147483648) (-1) a0 := sf_ltL c1 (sf_any a0) sf_k0
    refine pm_R_op pm_M62 (pc' := 18) (st' := [.null]) rfl rfl rfl ?_
    refine pm_R_br pm_M62 (pc' := 30) rfl rfl ?_
    refine pm_R_ret pm_M62 (r := some (.null)) rfl rfl ?_
    show pm_R _ 90 5 [.ref 16, .int a0, .int a1, .long a2, pm_no, .int a3, pm_no, pm_no, pm_no, pm_no, pm_no] [.null] _ _
    refine pm_R_lo pm_M90 (pc' := 7) (ls' := [.ref 16, .int a0, .int a1, .long a2, pm_no, .int a3, .null, pm_no, pm_no, pm_no, pm_no]) (st' := []) rfl rfl rfl ?_
    refine pm_R_lo pm_M90 (pc' := 8) rfl rfl rfl ?_
    refine pm_R_lo pm_M90 (pc' := 9) rfl rfl rfl ?_
    refine pm_R_cv pm_M90 (pc' := 12) (a := 16) (ra := [.int a1]) (rest := []) (ls' := [.ref 16, .int a1]) rfl rfl (Or.inl rfl) pm_M66 T.e16 rfl (by decide) (T.lt (by decide)) rfl rfl (Nat.le_of_ble_eq_true rfl) rfl rfl ?_
    refine pm_R_lo pm_M66 (pc' := 1) rfl rfl rfl ?_
    refine pm_R_ifc pm_M66 (t := 17) (pc' := 4) rfl rfl rfl (fun c3 => ?_) (fun c3 => ?_)
    · have B4 : sf_B (-2147483648) (-1) a1 := sf_ltL c3 (sf_any a1) sf_k0
      refine pm_R_op pm_M66 (pc' := 18) (st' := [.null]) rfl rfl rfl ?_
      refine pm_R_br pm_M66 (pc' := 30) rfl rfl ?_
      refine pm_R_ret pm_M66 (r := some (.null)) rfl rfl ?_
      show pm_R _ 90 12 [.ref 16, .int a0, .int a1, .long a2, pm_no, .int a3, .null, pm_no, pm_no, pm_no, pm_no] [.null] _ _
      refine pm_R_lo pm_M90 (pc' := 14) (ls' := [.ref 16, .int a0, .int a1, .long a2, pm_no, .int a3, .null, .null, pm_no, pm_no, pm_no]) (st' := []) rfl rfl rfl ?_
      refine pm_R_lo pm_M90 (pc' := 16) rfl rfl rfl ?_
      refine pm_R_br pm_M90 (pc' := 30) rfl rfl ?_
      refine pm_R_op pm_M90 (pc' := 32) (st' := [.int (-2)]) rfl rfl rfl ?_
      exact pm_R_ret pm_M90 (r := some (.int (-2))) rfl rfl (K (-2) m o h T (cl_F.refl (ck := ck) (A := [33, 34, 35]) (n := 0) (s := 0) T.1) (rf_W.refl [14, 15] m))
    · have B5 : sf_B 0 2147483647 a1 := sf_leR (Int32.not_lt.mp c3) sf_k0 (sf_any a1)
      refine pm_R_lo pm_M66 (pc' := 5) rfl rfl rfl ?_
      refine pm_R_lo pm_M66 (pc' := 6) rfl rfl rfl ?_
      refine pm_R_get pm_M66 (pc' := 9) (v := .ref 17) rfl rfl T.e16 (by decide) (T.lt (by decide)) rfl rfl ?_
      refine pm_R_get pm_M66 (pc' := 12) (v := .ref 23) rfl rfl T.e17 (by decide) (T.lt (by decide)) rfl rfl ?_
      refine pm_R_op pm_M66 (pc' := 13) (st' := [.int 1, .ref 23, .int a1]) rfl rfl rfl ?_
      obtain ⟨f9, e10, b11⟩ := T.C 23 (by decide) (by decide)
      obtain ⟨z6, ez7⟩ : ∃ y, f9 (Int32.toNatClampNeg 1) = y := ⟨_, rfl⟩
      have B8 : sf_B 0 3 z6 := ez7 ▸ (b11 1)
      refine pm_R_iald pm_M66 (pc' := 14) (v := z6) rfl e10 (T.lt (by decide)) rfl ez7 rfl ?_
      refine pm_R_icmp pm_M66 (t := 21) (pc' := 17) rfl rfl rfl (fun c12 => ?_) (fun c12 => ?_)
      · have B13 : sf_B 0 2 a1 := sf_ltL c12 B5 B8
        have B14 : sf_B 1 3 z6 := sf_ltR c12 B5 B8
        refine pm_R_lo pm_M66 (pc' := 22) rfl rfl rfl ?_
        refine pm_R_get pm_M66 (pc' := 25) (v := .ref 17) rfl rfl T.e16 (by decide) (T.lt (by decide)) rfl rfl ?_
        refine pm_R_get pm_M66 (pc' := 28) (v := .ref 20) rfl rfl T.e17 (by decide) (T.lt (by decide)) rfl rfl ?_
        refine pm_R_lo pm_M66 (pc' := 29) rfl rfl rfl ?_
        obtain ⟨f15, e16, b17⟩ := T.C 20 (by decide) (by decide)
        obtain ⟨l18, hx19⟩ := cl_there1 T e10 e16 ez7 c12 B13 (by decide)
        have hk20 := b17 _ _ hx19
        refine pm_R_aald pm_M66 (pc' := 30) (v := .ref l18) rfl e16 (by decide) (by decide) (by decide) (T.lt (by decide)) (sf_in B13 (by decide) (by decide)) (by rw [hx19]; rfl) rfl ?_
        refine pm_R_ret pm_M66 (r := some (.ref l18)) rfl rfl ?_
        show pm_R _ 90 12 [.ref 16, .int a0, .int a1, .long a2, pm_no, .int a3, .null, pm_no, pm_no, pm_no, pm_no] [.ref l18] _ _
        refine pm_R_lo pm_M90 (pc' := 14) (ls' := [.ref 16, .int a0, .int a1, .long a2, pm_no, .int a3, .null, .ref l18, pm_no, pm_no, pm_no]) (st' := []) rfl rfl rfl ?_
        refine pm_R_lo pm_M90 (pc' := 16) rfl rfl rfl ?_
        refine pm_R_br pm_M90 (pc' := 30) rfl rfl ?_
        refine pm_R_op pm_M90 (pc' := 32) (st' := [.int (-2)]) rfl rfl rfl ?_
        exact pm_R_ret pm_M90 (r := some (.int (-2))) rfl rfl (K (-2) m o h T (cl_F.refl (ck := ck) (A := [33, 34, 35]) (n := 0) (s := 0) T.1) (rf_W.refl [14, 15] m))
      · skip
        refine pm_R_op pm_M66 (pc' := 18) (st' := [.null]) rfl rfl rfl ?_
        refine pm_R_br pm_M66 (pc' := 30) rfl rfl ?_
        refine pm_R_ret pm_M66 (r := some (.null)) rfl rfl ?_
        show pm_R _ 90 12 [.ref 16, .int a0, .int a1, .long a2, pm_no, .int a3, .null, pm_no, pm_no, pm_no, pm_no] [.null] _ _
        refine pm_R_lo pm_M90 (pc' := 14) (ls' := [.ref 16, .int a0, .int a1, .long a2, pm_no, .int a3, .null, .null, pm_no, pm_no, pm_no]) (st' := []) rfl rfl rfl ?_
        refine pm_R_lo pm_M90 (pc' := 16) rfl rfl rfl ?_
        refine pm_R_br pm_M90 (pc' := 30) rfl rfl ?_
        refine pm_R_op pm_M90 (pc' := 32) (st' := [.int (-2)]) rfl rfl rfl ?_
        exact pm_R_ret pm_M90 (r := some (.int (-2))) rfl rfl (K (-2) m o h T (cl_F.refl (ck := ck) (A := [33, 34, 35]) (n := 0) (s := 0) T.1) (rf_W.refl [14, 15] m))
  · have B21 : sf_B 0 2147483647 a0 := sf_leR (Int32.not_lt.mp c1) sf_k0 (sf_any a0)
    refine pm_R_lo pm_M62 (pc' := 5) rfl rfl rfl ?_
    refine pm_R_lo pm_M62 (pc' := 6) rfl rfl rfl ?_
    refine pm_R_get pm_M62 (pc' := 9) (v := .ref 17) rfl rfl T.e16 (by decide) (T.lt (by decide)) rfl rfl ?_
    refine pm_R_get pm_M62 (pc' := 12) (v := .ref 23) rfl rfl T.e17 (by decide) (T.lt (by decide)) rfl rfl ?_
    refine pm_R_op pm_M62 (pc' := 13) (st' := [.int 0, .ref 23, .int a0]) rfl rfl rfl ?_
    obtain ⟨f25, e26, b27⟩ := T.C 23 (by decide) (by decide)
    obtain ⟨z22, ez23⟩ : ∃ y, f25 (Int32.toNatClampNeg 0) = y := ⟨_, rfl⟩
    have B24 : sf_B 0 2 z22 := ez23 ▸ (b27 0)
    refine pm_R_iald pm_M62 (pc' := 14) (v := z22) rfl e26 (T.lt (by decide)) rfl ez23 rfl ?_
    refine pm_R_icmp pm_M62 (t := 21) (pc' := 17) rfl rfl rfl (fun c28 => ?_) (fun c28 => ?_)
    · have B29 : sf_B 0 1 a0 := sf_ltL c28 B21 B24
      have B30 : sf_B 1 2 z22 := sf_ltR c28 B21 B24
      refine pm_R_lo pm_M62 (pc' := 22) rfl rfl rfl ?_
      refine pm_R_get pm_M62 (pc' := 25) (v := .ref 17) rfl rfl T.e16 (by decide) (T.lt (by decide)) rfl rfl ?_
      refine pm_R_get pm_M62 (pc' := 28) (v := .ref 19) rfl rfl T.e17 (by decide) (T.lt (by decide)) rfl rfl ?_
      refine pm_R_lo pm_M62 (pc' := 29) rfl rfl rfl ?_
      obtain ⟨f31, e32, b33⟩ := T.C 19 (by decide) (by decide)
      obtain ⟨l34, hx35⟩ := cl_there0 T e26 e32 ez23 c28 B29 (by decide)
      have hk36 := b33 _ _ hx35
      refine pm_R_aald pm_M62 (pc' := 30) (v := .ref l34) rfl e32 (by decide) (by decide) (by decide) (T.lt (by decide)) (sf_in B29 (by decide) (by decide)) (by rw [hx35]; rfl) rfl ?_
      refine pm_R_ret pm_M62 (r := some (.ref l34)) rfl rfl ?_
      show pm_R _ 90 5 [.ref 16, .int a0, .int a1, .long a2, pm_no, .int a3, pm_no, pm_no, pm_no, pm_no, pm_no] [.ref l34] _ _
      refine pm_R_lo pm_M90 (pc' := 7) (ls' := [.ref 16, .int a0, .int a1, .long a2, pm_no, .int a3, .ref l34, pm_no, pm_no, pm_no, pm_no]) (st' := []) rfl rfl rfl ?_
      refine pm_R_lo pm_M90 (pc' := 8) rfl rfl rfl ?_
      refine pm_R_lo pm_M90 (pc' := 9) rfl rfl rfl ?_
      refine pm_R_cv pm_M90 (pc' := 12) (a := 16) (ra := [.int a1]) (rest := []) (ls' := [.ref 16, .int a1]) rfl rfl (Or.inl rfl) pm_M66 T.e16 rfl (by decide) (T.lt (by decide)) rfl rfl (Nat.le_of_ble_eq_true rfl) rfl rfl ?_
      refine pm_R_lo pm_M66 (pc' := 1) rfl rfl rfl ?_
      refine pm_R_ifc pm_M66 (t := 17) (pc' := 4) rfl rfl rfl (fun c37 => ?_) (fun c37 => ?_)
      · have B38 : sf_B (-2147483648) (-1) a1 := sf_ltL c37 (sf_any a1) sf_k0
        refine pm_R_op pm_M66 (pc' := 18) (st' := [.null]) rfl rfl rfl ?_
        refine pm_R_br pm_M66 (pc' := 30) rfl rfl ?_
        refine pm_R_ret pm_M66 (r := some (.null)) rfl rfl ?_
        show pm_R _ 90 12 [.ref 16, .int a0, .int a1, .long a2, pm_no, .int a3, .ref l34, pm_no, pm_no, pm_no, pm_no] [.null] _ _
        refine pm_R_lo pm_M90 (pc' := 14) (ls' := [.ref 16, .int a0, .int a1, .long a2, pm_no, .int a3, .ref l34, .null, pm_no, pm_no, pm_no]) (st' := []) rfl rfl rfl ?_
        refine pm_R_lo pm_M90 (pc' := 16) rfl rfl rfl ?_
        refine pm_R_br pm_M90 (pc' := 19) rfl rfl ?_
        refine pm_R_lo pm_M90 (pc' := 21) rfl rfl rfl ?_
        refine pm_R_br pm_M90 (pc' := 30) rfl rfl ?_
        refine pm_R_op pm_M90 (pc' := 32) (st' := [.int (-2)]) rfl rfl rfl ?_
        exact pm_R_ret pm_M90 (r := some (.int (-2))) rfl rfl (K (-2) m o h T (cl_F.refl (ck := ck) (A := [33, 34, 35]) (n := 0) (s := 0) T.1) (rf_W.refl [14, 15] m))
      · have B39 : sf_B 0 2147483647 a1 := sf_leR (Int32.not_lt.mp c37) sf_k0 (sf_any a1)
        refine pm_R_lo pm_M66 (pc' := 5) rfl rfl rfl ?_
        refine pm_R_lo pm_M66 (pc' := 6) rfl rfl rfl ?_
        refine pm_R_get pm_M66 (pc' := 9) (v := .ref 17) rfl rfl T.e16 (by decide) (T.lt (by decide)) rfl rfl ?_
        refine pm_R_get pm_M66 (pc' := 12) (v := .ref 23) rfl rfl T.e17 (by decide) (T.lt (by decide)) rfl rfl ?_
        refine pm_R_op pm_M66 (pc' := 13) (st' := [.int 1, .ref 23, .int a1]) rfl rfl rfl ?_
        obtain ⟨z40, ez41⟩ : ∃ y, f25 (Int32.toNatClampNeg 1) = y := ⟨_, rfl⟩
        have B42 : sf_B 0 3 z40 := ez41 ▸ (b27 1)
        refine pm_R_iald pm_M66 (pc' := 14) (v := z40) rfl e26 (T.lt (by decide)) rfl ez41 rfl ?_
        refine pm_R_icmp pm_M66 (t := 21) (pc' := 17) rfl rfl rfl (fun c43 => ?_) (fun c43 => ?_)
        · have B44 : sf_B 0 2 a1 := sf_ltL c43 B39 B42
          have B45 : sf_B 1 3 z40 := sf_ltR c43 B39 B42
          refine pm_R_lo pm_M66 (pc' := 22) rfl rfl rfl ?_
          refine pm_R_get pm_M66 (pc' := 25) (v := .ref 17) rfl rfl T.e16 (by decide) (T.lt (by decide)) rfl rfl ?_
          refine pm_R_get pm_M66 (pc' := 28) (v := .ref 20) rfl rfl T.e17 (by decide) (T.lt (by decide)) rfl rfl ?_
          refine pm_R_lo pm_M66 (pc' := 29) rfl rfl rfl ?_
          obtain ⟨f46, e47, b48⟩ := T.C 20 (by decide) (by decide)
          obtain ⟨l49, hx50⟩ := cl_there1 T e26 e47 ez41 c43 B44 (by decide)
          have hk51 := b48 _ _ hx50
          refine pm_R_aald pm_M66 (pc' := 30) (v := .ref l49) rfl e47 (by decide) (by decide) (by decide) (T.lt (by decide)) (sf_in B44 (by decide) (by decide)) (by rw [hx50]; rfl) rfl ?_
          refine pm_R_ret pm_M66 (r := some (.ref l49)) rfl rfl ?_
          show pm_R _ 90 12 [.ref 16, .int a0, .int a1, .long a2, pm_no, .int a3, .ref l34, pm_no, pm_no, pm_no, pm_no] [.ref l49] _ _
          refine pm_R_lo pm_M90 (pc' := 14) (ls' := [.ref 16, .int a0, .int a1, .long a2, pm_no, .int a3, .ref l34, .ref l49, pm_no, pm_no, pm_no]) (st' := []) rfl rfl rfl ?_
          refine pm_R_lo pm_M90 (pc' := 16) rfl rfl rfl ?_
          refine pm_R_br pm_M90 (pc' := 19) rfl rfl ?_
          refine pm_R_lo pm_M90 (pc' := 21) rfl rfl rfl ?_
          refine pm_R_br pm_M90 (pc' := 24) rfl rfl ?_
          refine pm_R_lo pm_M90 (pc' := 25) rfl rfl rfl ?_
          refine pm_R_op pm_M90 (pc' := 26) (st' := [.long 0, .long a2]) rfl rfl rfl ?_
          refine sf_R_lcmp pm_M90 (pc' := 27) rfl rfl (fun z52 e53 => ?_)
          refine pm_R_ifc pm_M90 (t := 33) (pc' := 30) rfl rfl rfl (fun c54 => ?_) (fun c54 => ?_)
          · have B55 : sf_B 0 2147483647 z52 := sf_leR c54 sf_k0 (sf_any z52)
            have k56 := lf_ge e53 B55 (by decide)
            have B57 : lf_B 0 9223372036854775807 a2 := lf_geB k56 (⟨by decide, by decide⟩ : lf_B 0 0 0) (lf_any _)
            refine pm_R_lo pm_M90 (pc' := 35) rfl rfl rfl ?_
            refine pm_R_ifc pm_M90 (t := 57) (pc' := 38) rfl rfl rfl (fun c58 => ?_) (fun c58 => ?_)
            · have B59 : sf_B (-2147483648) (-1) a3 := sf_ltL c58 (sf_any a3) sf_k0
              refine pm_R_op pm_M90 (pc' := 59) (st' := [.int (-2)]) rfl rfl rfl ?_
              exact pm_R_ret pm_M90 (r := some (.int (-2))) rfl rfl (K (-2) m o h T (cl_F.refl (ck := ck) (A := [33, 34, 35]) (n := 0) (s := 0) T.1) (rf_W.refl [14, 15] m))
            · have B60 : sf_B 0 2147483647 a3 := sf_leR (Int32.not_lt.mp c58) sf_k0 (sf_any a3)
              refine pm_R_lo pm_M90 (pc' := 40) rfl rfl rfl ?_
              refine pm_R_op pm_M90 (pc' := 41) (st' := [.int 2, .int a3]) rfl rfl rfl ?_
              refine pm_R_icmp pm_M90 (t := 60) (pc' := 44) rfl rfl rfl (fun c61 => ?_) (fun c61 => ?_)
              · have B62 : sf_B 0 2 a3 := sf_leL c61 B60 sf_k2
                refine pm_R_lo pm_M90 (pc' := 61) rfl rfl rfl ?_
                refine pm_R_get pm_M90 (pc' := 64) (v := .ref 33) rfl rfl T.e16 (by decide) (T.lt (by decide)) rfl rfl ?_
                refine pm_R_lo pm_M90 (pc' := 66) rfl rfl rfl ?_
                refine pm_R_lo pm_M90 (pc' := 68) rfl rfl rfl ?_
                refine pm_R_cv pm_M90 (pc' := 71) (a := 33) (ra := [.ref l49, .ref l34]) (rest := []) (ls' := [.ref 33, .ref l34, .ref l49, pm_no, pm_no]) rfl rfl (Or.inl rfl) pm_M70 T.e33 rfl (by decide) (T.lt (by decide)) rfl rfl (Nat.le_of_ble_eq_true rfl) rfl rfl ?_
                refine cl_c70 (d := d + 0) G T hk36 hk51 (fun m65 o70 h66 T67 F68 W69 X71 X72 => ?_)
                have F73 := (cl_F.refl (ck := ck) (A := [33, 34, 35]) (n := 0) (s := 0) T.1).trans (N := 0) (S := 0) F68 (by decide) (by decide) (by decide)
                have W74 : rf_W [14, 15] m m65 := (rf_W.refl [14, 15] m).trans W69 (by decide)
                show pm_R _ 90 71 [.ref 16, .int a0, .int a1, .long a2, pm_no, .int a3, .ref l34, .ref l49, pm_no, pm_no, pm_no] [] _ _
                refine pm_R_lo pm_M90 (pc' := 72) rfl rfl rfl ?_
                refine pm_R_get pm_M90 (pc' := 75) (v := .ref 33) rfl rfl T67.e16 (by decide) (T67.lt (by decide)) rfl rfl ?_
                refine pm_R_get pm_M90 (pc' := 78) (v := .ref 34) rfl rfl T67.e33 (by decide) (T67.lt (by decide)) rfl rfl ?_
                refine pm_R_op pm_M90 (pc' := 79) (st' := [.int 0, .ref 34]) rfl rfl rfl ?_
                refine pm_R_lo pm_M90 (pc' := 81) rfl rfl rfl ?_
                obtain ⟨n75, f76, h77, h78, eE79, eE80, b81⟩ := (G.2.2.1 l49 hk51).2
                have kq82 := (G.2.2.1 l49 hk51).1
                refine pm_R_get pm_M90 (pc' := 84) (v := .int (Int32.ofNat n75)) rfl rfl (T67.im hk51 (by decide) (by decide) eE79) (G.ge hk51 (by decide)) (T67.al hk51 (by decide)) rfl rfl ?_
                refine pm_R_op pm_M90 (pc' := 85) (st' := [.int 1, .int (Int32.ofNat n75), .int 0, .ref 34]) rfl rfl rfl ?_
                refine sf_R_isub pm_M90 (pc' := 86) rfl rfl (sf_ofB1 h78 h77 (by decide)) sf_k1 (by decide) (by decide) (fun z83 e84 B85 => ?_)
                refine pm_R_cs pm_M90 (pc' := 89) (ra := [.int z83, .int 0]) (rest := [.ref 34]) (ls' := [.int 0, .int z83]) rfl rfl (Or.inl rfl) pm_M73 rfl rfl (Nat.le_of_ble_eq_true rfl) rfl rfl ?_
                refine pm_R_lo pm_M73 (pc' := 1) rfl rfl rfl ?_
                refine pm_R_lo pm_M73 (pc' := 2) rfl rfl rfl ?_
                refine pm_R_op pm_M73 (pc' := 3) (st' := [.int 1, .int z83, .int z83]) rfl rfl rfl ?_
                refine sf_R_iadd pm_M73 (pc' := 4) rfl rfl B85 sf_k1 (by decide) (by decide) (fun z86 e87 B88 => ?_)
                refine sf_R_imul pm_M73 (pc' := 5) rfl rfl B85 B88 (by decide) (by decide) (by decide) (fun z89 e90 B91 => ?_)
                refine pm_R_op pm_M73 (pc' := 6) (st' := [.int 2, .int z89]) rfl rfl rfl ?_
                refine sf_R_idiv pm_M73 (pc' := 7) rfl rfl B91 sf_k2 (by decide) (by decide) (fun z92 e93 B94 => ?_)
                refine pm_R_lo pm_M73 (pc' := 8) rfl rfl rfl ?_
                refine sf_R_iadd pm_M73 (pc' := 9) rfl rfl B94 sf_k0 (by decide) (by decide) (fun z95 e96 B97 => ?_)
                refine pm_R_ret pm_M73 (r := some (.int z95)) rfl (pm_ret_i _) ?_
                show pm_R _ 90 89 [.ref 16, .int a0, .int a1, .long a2, pm_no, .int a3, .ref l34, .ref l49, pm_no, pm_no, pm_no] [.int z95, .ref 34] _ _
                refine pm_R_op pm_M90 (pc' := 91) (st' := [.int 6, .int z95, .ref 34]) rfl rfl rfl ?_
                refine sf_R_imul pm_M90 (pc' := 92) rfl rfl B97 sf_k6 (by decide) (by decide) (by decide) (fun z98 e99 B100 => ?_)
                obtain ⟨f104, e105⟩ := T67.C 34 (by decide) (by decide)
                obtain ⟨z101, ez102⟩ : ∃ y, f104 (Int32.toNatClampNeg z98) = y := ⟨_, rfl⟩
                refine pm_R_lald pm_M90 (pc' := 93) (v := z101) rfl e105 (by decide) (T67.lt (by decide)) (sf_in B100 (by decide) (by decide)) ez102 rfl ?_
                refine pm_R_lo pm_M90 (pc' := 95) (ls' := [.ref 16, .int a0, .int a1, .long a2, pm_no, .int a3, .ref l34, .ref l49, .long z101, pm_no, pm_no]) (st' := []) rfl rfl rfl ?_
                refine pm_R_lo pm_M90 (pc' := 96) rfl rfl rfl ?_
                refine pm_R_lo pm_M90 (pc' := 98) rfl rfl rfl ?_
                refine sf_R_lcmp pm_M90 (pc' := 99) rfl rfl (fun z107 e108 => ?_)
                refine pm_R_ifc pm_M90 (t := 114) (pc' := 102) rfl rfl rfl (fun c109 => ?_) (fun c109 => ?_)
                · have B110 : sf_B (-2147483648) (-1) z107 := sf_ltL c109 (sf_any z107) sf_k0
                  have k111 := lf_lt e108 B110 (by decide)
                  have k112 := sf_lneB e108 B110 (by decide)
                  refine pm_R_lo pm_M90 (pc' := 115) rfl rfl rfl ?_
                  refine pm_R_get pm_M90 (pc' := 118) (v := .ref 33) (pm_q90_1 (Nat.le_of_ble_eq_true rfl)) rfl T67.e16 (by decide) (T67.lt (by decide)) rfl rfl ?_
                  refine pm_R_lo pm_M90 (pc' := 119) (pm_q90_1 (Nat.le_of_ble_eq_true rfl)) rfl rfl ?_
                  refine pm_R_cv pm_M90 (pc' := 122) (a := 33) (ra := [.long a2]) (rest := []) (ls' := [.ref 33, .long a2, pm_no]) (pm_q90_1 (Nat.le_of_ble_eq_true rfl)) rfl (Or.inl rfl) pm_M91 T67.e33 rfl (by decide) (T67.lt (by decide)) rfl rfl (Nat.le_of_ble_eq_true rfl) rfl rfl ?_
                  refine pm_R_lo pm_M91 (pc' := 1) rfl rfl rfl ?_
                  refine pm_R_op pm_M91 (pc' := 2) (st' := [.int (-1), .ref 33]) rfl rfl rfl ?_
                  refine cl_R_put33 G pm_M91 T67 (k := 14) (pc' := 5) rfl rfl rfl (by decide) rfl rfl (sf_any _) rfl rfl rfl rfl rfl (fun h113 m116 em117 T114 F115 => ?_)
                  have F118 := F115.cl (ck := ck) T67.1
                  have F119 := F73.trans (N := 0) (S := 0) F118 (by decide) (by decide) (by decide)
                  have B120 : sf_B (-1) (-1) (m116 14) := by rw [em117]; exact sf_kn1
                  have W122 : rf_W [14, 15] m m116 := by rw [em117]; exact W74.put (by decide)
                  refine pm_R_lo pm_M91 (pc' := 6) rfl rfl rfl ?_
                  refine pm_R_op pm_M91 (pc' := 7) (st' := [.int (-1), .ref 33]) rfl rfl rfl ?_
                  refine cl_R_put33 G pm_M91 T114 (k := 15) (pc' := 10) rfl rfl rfl (by decide) rfl rfl (sf_any _) rfl rfl rfl rfl rfl (fun h123 m126 em127 T124 F125 => ?_)
                  have F128 := F125.cl (ck := ck) T114.1
                  have F129 := F119.trans (N := 0) (S := 0) F128 (by decide) (by decide) (by decide)
                  have B130 : sf_B (-1) (-1) (m126 14) := by rw [em127]; exact B120
                  have B131 : sf_B (-1) (-1) (m126 15) := by rw [em127]; exact sf_kn1
                  have W133 : rf_W [14, 15] m m126 := by rw [em127]; exact W122.put (by decide)
                  refine pm_R_lo pm_M91 (pc' := 11) rfl rfl rfl ?_
                  refine pm_R_op pm_M91 (pc' := 12) (st' := [.int 0, .ref 33]) rfl rfl rfl ?_
                  refine pm_R_op pm_M91 (pc' := 13) (st' := [.int 0, .int 0, .ref 33]) rfl rfl rfl ?_
                  refine pm_R_lo pm_M91 (pc' := 14) rfl rfl rfl ?_
                  refine pm_R_get pm_M91 (pc' := 17) (v := .ref l49) rfl rfl T124.e33 (by decide) (T124.lt (by decide)) (by show some (va_rf (o70 2)) = _; rw [X72]; rfl) rfl ?_
                  refine pm_R_get pm_M91 (pc' := 20) (v := .int (Int32.ofNat n75)) rfl rfl (T124.im hk51 (by decide) (by decide) eE79) (G.ge hk51 (by decide)) (T124.al hk51 (by decide)) rfl rfl ?_
                  refine pm_R_op pm_M91 (pc' := 21) (st' := [.int 1, .int (Int32.ofNat n75), .int 0, .int 0, .ref 33]) rfl rfl rfl ?_
                  refine sf_R_isubV pm_M91 (pc' := 22) rfl rfl (sf_ofB1 h78 h77 (by decide)) sf_k1 (by decide) (by decide) e84 ?_
                  refine pm_R_lo pm_M91 (pc' := 23) rfl rfl rfl ?_
                  refine pm_R_op pm_M91 (pc' := 24) (st' := [.int 1, .long a2, .int z83, .int 0, .int 0, .ref 33]) rfl rfl rfl ?_
                  refine pm_R_cv pm_M91 (pc' := 27) (a := 33) (ra := [.int 1, .long a2, .int z83, .int 0, .int 0]) (rest := []) (ls' := [.ref 33, .int 0, .int 0, .int z83, .long a2, pm_no, .int 1, pm_no, pm_no, pm_no, pm_no, pm_no, pm_no, pm_no, pm_no, pm_no, pm_no, pm_no]) rfl rfl (Or.inl rfl) pm_M92 T124.e33 rfl (by decide) (T124.lt (by decide)) rfl rfl (Nat.le_of_ble_eq_true rfl) rfl rfl ?_
                  refine cl_c92_1 (d := d + 0) G T124 (sf_weak sf_k0 (by decide) (by decide)) (sf_weak sf_k0 (by decide) (by decide)) B85 X71 X72 eE79 (Int32.lt_iff_toInt_lt.mpr (cl_aux16 _ (sf_ofB1 h78 h77 (by decide)).1)) (Int32.lt_iff_toInt_lt.mpr (cl_aux17 _ _ e84)) (fun r134 m136 h137 T138 F139 W140 => ?_)
                  have F141 := F129.trans (N := 0) (S := 0) F139 (by decide) (by decide) (by decide)
                  have W142 : rf_W [14, 15] m m136 := W133.trans W140 (by decide)
                  show pm_R _ 91 27 [.ref 33, .long a2, pm_no] [.int r134] _ _
                  refine pm_R_ret pm_M91 (r := some (.int r134)) rfl (pm_ret_i _) ?_
                  show pm_R _ 90 122 [.ref 16, .int a0, .int a1, .long a2, pm_no, .int a3, .ref l34, .ref l49, .long z101, pm_no, pm_no] [.int r134] _ _
                  refine pm_R_lo pm_M90 (pc' := 124) (ls' := [.ref 16, .int a0, .int a1, .long a2, pm_no, .int a3, .ref l34, .ref l49, .long z101, pm_no, .int r134]) (st' := []) (pm_q90_1 (Nat.le_of_ble_eq_true rfl)) rfl rfl ?_
                  refine pm_R_lo pm_M90 (pc' := 126) (pm_q90_1 (Nat.le_of_ble_eq_true rfl)) rfl rfl ?_
                  by_cases c143 : a3 = 0
                  · rw [c143]
                    refine pm_R_br pm_M90 (pc' := 152) (st' := []) (pm_q90_1 (Nat.le_of_ble_eq_true rfl)) rfl ?_
                    refine pm_R_lo pm_M90 (pc' := 154) (pm_q90_1 (Nat.le_of_ble_eq_true rfl)) rfl rfl ?_
                    exact pm_R_ret pm_M90 (r := some (.int r134)) (pm_q90_1 (Nat.le_of_ble_eq_true rfl)) (pm_ret_i _) (K r134 m136 o70 h137 T138 F141 W142)
                  have B144 : sf_B 1 2 a3 := sf_neL0 c143 sf_k0 B62
                  by_cases c145 : a3 = 1
                  · rw [c145]
                    refine pm_R_br pm_M90 (pc' := 155) (st' := []) (pm_q90_1 (Nat.le_of_ble_eq_true rfl)) rfl ?_
                    refine pm_R_lo pm_M90 (pc' := 156) (pm_q90_1 (Nat.le_of_ble_eq_true rfl)) rfl rfl ?_
                    refine pm_R_get pm_M90 (pc' := 159) (v := .ref 33) (pm_q90_1 (Nat.le_of_ble_eq_true rfl)) rfl T138.e16 (by decide) (T138.lt (by decide)) rfl rfl ?_
                    refine pm_R_get pm_M90 (pc' := 162) (v := .int (m136 14)) (pm_q90_1 (Nat.le_of_ble_eq_true rfl)) rfl T138.e33 (by decide) (T138.lt (by decide)) rfl rfl ?_
                    exact pm_R_ret pm_M90 (r := some (.int (m136 14))) (pm_q90_1 (Nat.le_of_ble_eq_true rfl)) (pm_ret_i _) (K (m136 14) m136 o70 h137 T138 F141 W142)
                  have B146 : sf_B 2 2 a3 := sf_neL0 c145 sf_k1 B144
                  rw [sf_pt2 B146 sf_k2]
                  refine pm_R_br pm_M90 (pc' := 163) (st' := []) (pm_q90_1 (Nat.le_of_ble_eq_true rfl)) rfl ?_
                  refine pm_R_lo pm_M90 (pc' := 164) (pm_q90_1 (Nat.le_of_ble_eq_true rfl)) rfl rfl ?_
                  refine pm_R_get pm_M90 (pc' := 167) (v := .ref 33) (pm_q90_1 (Nat.le_of_ble_eq_true rfl)) rfl T138.e16 (by decide) (T138.lt (by decide)) rfl rfl ?_
                  refine pm_R_get pm_M90 (pc' := 170) (v := .int (m136 15)) (pm_q90_1 (Nat.le_of_ble_eq_true rfl)) rfl T138.e33 (by decide) (T138.lt (by decide)) rfl rfl ?_
                  exact pm_R_ret pm_M90 (r := some (.int (m136 15))) (pm_q90_1 (Nat.le_of_ble_eq_true rfl)) (pm_ret_i _) (K (m136 15) m136 o70 h137 T138 F141 W142)
                · have B147 : sf_B 0 2147483647 z107 := sf_leR (Int32.not_lt.mp c109) sf_k0 (sf_any z107)
                  have k148 := lf_ge e108 B147 (by decide)
                  refine pm_R_lo pm_M90 (pc' := 104) rfl rfl rfl ?_
                  refine pm_R_ldc2 pm_M90 (pc' := 107) rfl rfl rfl ?_
                  refine sf_R_lcmp pm_M90 (pc' := 108) rfl rfl (fun z149 e150 => ?_)
                  refine pm_R_ifc pm_M90 (t := 114) (pc' := 111) rfl rfl rfl (fun c151 => ?_) (fun c151 => ?_)
                  · have B152 : sf_B 0 0 z149 := sf_eqL c151 sf_k0
                    have B153 : lf_B (-1) (-1) z101 := lf_eqB e150 B152 (⟨by decide, by decide⟩ : lf_B (-1) (-1) (-1))
                    refine pm_R_lo pm_M90 (pc' := 115) rfl rfl rfl ?_
                    refine pm_R_get pm_M90 (pc' := 118) (v := .ref 33) (pm_q90_1 (Nat.le_of_ble_eq_true rfl)) rfl T67.e16 (by decide) (T67.lt (by decide)) rfl rfl ?_
                    refine pm_R_lo pm_M90 (pc' := 119) (pm_q90_1 (Nat.le_of_ble_eq_true rfl)) rfl rfl ?_
                    refine pm_R_cv pm_M90 (pc' := 122) (a := 33) (ra := [.long a2]) (rest := []) (ls' := [.ref 33, .long a2, pm_no]) (pm_q90_1 (Nat.le_of_ble_eq_true rfl)) rfl (Or.inl rfl) pm_M91 T67.e33 rfl (by decide) (T67.lt (by decide)) rfl rfl (Nat.le_of_ble_eq_true rfl) rfl rfl ?_
                    refine pm_R_lo pm_M91 (pc' := 1) rfl rfl rfl ?_
                    refine pm_R_op pm_M91 (pc' := 2) (st' := [.int (-1), .ref 33]) rfl rfl rfl ?_
                    refine cl_R_put33 G pm_M91 T67 (k := 14) (pc' := 5) rfl rfl rfl (by decide) rfl rfl (sf_any _) rfl rfl rfl rfl rfl (fun h154 m157 em158 T155 F156 => ?_)
                    have F159 := F156.cl (ck := ck) T67.1
                    have F160 := F73.trans (N := 0) (S := 0) F159 (by decide) (by decide) (by decide)
                    have B161 : sf_B (-1) (-1) (m157 14) := by rw [em158]; exact sf_kn1
                    have W163 : rf_W [14, 15] m m157 := by rw [em158]; exact W74.put (by decide)
                    refine pm_R_lo pm_M91 (pc' := 6) rfl rfl rfl ?_
                    refine pm_R_op pm_M91 (pc' := 7) (st' := [.int (-1), .ref 33]) rfl rfl rfl ?_
                    refine cl_R_put33 G pm_M91 T155 (k := 15) (pc' := 10) rfl rfl rfl (by decide) rfl rfl (sf_any _) rfl rfl rfl rfl rfl (fun h164 m167 em168 T165 F166 => ?_)
                    have F169 := F166.cl (ck := ck) T155.1
                    have F170 := F160.trans (N := 0) (S := 0) F169 (by decide) (by decide) (by decide)
                    have B171 : sf_B (-1) (-1) (m167 14) := by rw [em168]; exact B161
                    have B172 : sf_B (-1) (-1) (m167 15) := by rw [em168]; exact sf_kn1
                    have W174 : rf_W [14, 15] m m167 := by rw [em168]; exact W163.put (by decide)
                    refine pm_R_lo pm_M91 (pc' := 11) rfl rfl rfl ?_
                    refine pm_R_op pm_M91 (pc' := 12) (st' := [.int 0, .ref 33]) rfl rfl rfl ?_
                    refine pm_R_op pm_M91 (pc' := 13) (st' := [.int 0, .int 0, .ref 33]) rfl rfl rfl ?_
                    refine pm_R_lo pm_M91 (pc' := 14) rfl rfl rfl ?_
                    refine pm_R_get pm_M91 (pc' := 17) (v := .ref l49) rfl rfl T165.e33 (by decide) (T165.lt (by decide)) (by show some (va_rf (o70 2)) = _; rw [X72]; rfl) rfl ?_
                    refine pm_R_get pm_M91 (pc' := 20) (v := .int (Int32.ofNat n75)) rfl rfl (T165.im hk51 (by decide) (by decide) eE79) (G.ge hk51 (by decide)) (T165.al hk51 (by decide)) rfl rfl ?_
                    refine pm_R_op pm_M91 (pc' := 21) (st' := [.int 1, .int (Int32.ofNat n75), .int 0, .int 0, .ref 33]) rfl rfl rfl ?_
                    refine sf_R_isubV pm_M91 (pc' := 22) rfl rfl (sf_ofB1 h78 h77 (by decide)) sf_k1 (by decide) (by decide) e84 ?_
                    refine pm_R_lo pm_M91 (pc' := 23) rfl rfl rfl ?_
                    refine pm_R_op pm_M91 (pc' := 24) (st' := [.int 1, .long a2, .int z83, .int 0, .int 0, .ref 33]) rfl rfl rfl ?_
                    refine pm_R_cv pm_M91 (pc' := 27) (a := 33) (ra := [.int 1, .long a2, .int z83, .int 0, .int 0]) (rest := []) (ls' := [.ref 33, .int 0, .int 0, .int z83, .long a2, pm_no, .int 1, pm_no, pm_no, pm_no, pm_no, pm_no, pm_no, pm_no, pm_no, pm_no, pm_no, pm_no]) rfl rfl (Or.inl rfl) pm_M92 T165.e33 rfl (by decide) (T165.lt (by decide)) rfl rfl (Nat.le_of_ble_eq_true rfl) rfl rfl ?_
                    refine cl_c92_1 (d := d + 0) G T165 (sf_weak sf_k0 (by decide) (by decide)) (sf_weak sf_k0 (by decide) (by decide)) B85 X71 X72 eE79 (Int32.lt_iff_toInt_lt.mpr (cl_aux16 _ (sf_ofB1 h78 h77 (by decide)).1)) (Int32.lt_iff_toInt_lt.mpr (cl_aux17 _ _ e84)) (fun r175 m177 h178 T179 F180 W181 => ?_)
                    have F182 := F170.trans (N := 0) (S := 0) F180 (by decide) (by decide) (by decide)
                    have W183 : rf_W [14, 15] m m177 := W174.trans W181 (by decide)
                    show pm_R _ 91 27 [.ref 33, .long a2, pm_no] [.int r175] _ _
                    refine pm_R_ret pm_M91 (r := some (.int r175)) rfl (pm_ret_i _) ?_
                    show pm_R _ 90 122 [.ref 16, .int a0, .int a1, .long a2, pm_no, .int a3, .ref l34, .ref l49, .long z101, pm_no, pm_no] [.int r175] _ _
                    refine pm_R_lo pm_M90 (pc' := 124) (ls' := [.ref 16, .int a0, .int a1, .long a2, pm_no, .int a3, .ref l34, .ref l49, .long z101, pm_no, .int r175]) (st' := []) (pm_q90_1 (Nat.le_of_ble_eq_true rfl)) rfl rfl ?_
                    refine pm_R_lo pm_M90 (pc' := 126) (pm_q90_1 (Nat.le_of_ble_eq_true rfl)) rfl rfl ?_
                    by_cases c184 : a3 = 0
                    · rw [c184]
                      refine pm_R_br pm_M90 (pc' := 152) (st' := []) (pm_q90_1 (Nat.le_of_ble_eq_true rfl)) rfl ?_
                      refine pm_R_lo pm_M90 (pc' := 154) (pm_q90_1 (Nat.le_of_ble_eq_true rfl)) rfl rfl ?_
                      exact pm_R_ret pm_M90 (r := some (.int r175)) (pm_q90_1 (Nat.le_of_ble_eq_true rfl)) (pm_ret_i _) (K r175 m177 o70 h178 T179 F182 W183)
                    have B185 : sf_B 1 2 a3 := sf_neL0 c184 sf_k0 B62
                    by_cases c186 : a3 = 1
                    · rw [c186]
                      refine pm_R_br pm_M90 (pc' := 155) (st' := []) (pm_q90_1 (Nat.le_of_ble_eq_true rfl)) rfl ?_
                      refine pm_R_lo pm_M90 (pc' := 156) (pm_q90_1 (Nat.le_of_ble_eq_true rfl)) rfl rfl ?_
                      refine pm_R_get pm_M90 (pc' := 159) (v := .ref 33) (pm_q90_1 (Nat.le_of_ble_eq_true rfl)) rfl T179.e16 (by decide) (T179.lt (by decide)) rfl rfl ?_
                      refine pm_R_get pm_M90 (pc' := 162) (v := .int (m177 14)) (pm_q90_1 (Nat.le_of_ble_eq_true rfl)) rfl T179.e33 (by decide) (T179.lt (by decide)) rfl rfl ?_
                      exact pm_R_ret pm_M90 (r := some (.int (m177 14))) (pm_q90_1 (Nat.le_of_ble_eq_true rfl)) (pm_ret_i _) (K (m177 14) m177 o70 h178 T179 F182 W183)
                    have B187 : sf_B 2 2 a3 := sf_neL0 c186 sf_k1 B185
                    rw [sf_pt2 B187 sf_k2]
                    refine pm_R_br pm_M90 (pc' := 163) (st' := []) (pm_q90_1 (Nat.le_of_ble_eq_true rfl)) rfl ?_
                    refine pm_R_lo pm_M90 (pc' := 164) (pm_q90_1 (Nat.le_of_ble_eq_true rfl)) rfl rfl ?_
                    refine pm_R_get pm_M90 (pc' := 167) (v := .ref 33) (pm_q90_1 (Nat.le_of_ble_eq_true rfl)) rfl T179.e16 (by decide) (T179.lt (by decide)) rfl rfl ?_
                    refine pm_R_get pm_M90 (pc' := 170) (v := .int (m177 15)) (pm_q90_1 (Nat.le_of_ble_eq_true rfl)) rfl T179.e33 (by decide) (T179.lt (by decide)) rfl rfl ?_
                    exact pm_R_ret pm_M90 (r := some (.int (m177 15))) (pm_q90_1 (Nat.le_of_ble_eq_true rfl)) (pm_ret_i _) (K (m177 15) m177 o70 h178 T179 F182 W183)
                  · have k188 := sf_lneC e150 c151
                    refine pm_R_op pm_M90 (pc' := 113) (st' := [.int (-2)]) rfl rfl rfl ?_
                    exact pm_R_ret pm_M90 (r := some (.int (-2))) rfl rfl (K (-2) m65 o70 h66 T67 F73 W74)
              · have B189 : sf_B 3 2147483647 a3 := sf_ltR (Int32.not_le.mp c61) sf_k2 B60
                refine pm_R_lo pm_M90 (pc' := 46) rfl rfl rfl ?_
                refine pm_R_lo pm_M90 (pc' := 48) rfl rfl rfl ?_
                refine pm_R_op pm_M90 (pc' := 50) (st' := [.int 10, .int a3, .ref l49]) rfl rfl rfl ?_
                refine sf_R_isub pm_M90 (pc' := 51) rfl rfl B189 sf_k10 (by decide) (by decide) (fun z190 e191 B192 => ?_)
                obtain ⟨n193, f194, h195, h196, eE197, eE198, b199⟩ := (G.2.2.1 l49 hk51).2
                have kq200 := (G.2.2.1 l49 hk51).1
                refine pm_R_cv pm_M90 (pc' := 54) (a := l49) (ra := [.int z190]) (rest := []) (ls' := [.ref l49, .int z190]) rfl rfl (Or.inl rfl) pm_M67 (T.im hk51 (by decide) (by decide) eE197) rfl (G.ge hk51 (by decide)) (T.al hk51 (by decide)) rfl rfl (Nat.le_of_ble_eq_true rfl) rfl rfl ?_
                refine pm_R_lo pm_M67 (pc' := 1) rfl rfl rfl ?_
                refine pm_R_ifc pm_M67 (t := 16) (pc' := 4) rfl rfl rfl (fun c201 => ?_) (fun c201 => ?_)
                · have B202 : sf_B (-7) (-1) z190 := sf_ltL c201 B192 sf_k0
                  refine pm_R_op pm_M67 (pc' := 17) (st' := [.int 0]) rfl rfl rfl ?_
                  refine pm_R_ret pm_M67 (r := some (.int 0)) rfl rfl ?_
                  show pm_R _ 90 54 [.ref 16, .int a0, .int a1, .long a2, pm_no, .int a3, .ref l34, .ref l49, pm_no, pm_no, pm_no] [.int 0] _ _
                  refine pm_R_br pm_M90 (pc' := 57) (st' := []) rfl rfl ?_
                  refine pm_R_op pm_M90 (pc' := 59) (st' := [.int (-2)]) rfl rfl rfl ?_
                  exact pm_R_ret pm_M90 (r := some (.int (-2))) rfl rfl (K (-2) m o h T (cl_F.refl (ck := ck) (A := [33, 34, 35]) (n := 0) (s := 0) T.1) (rf_W.refl [14, 15] m))
                · have B203 : sf_B 0 2147483637 z190 := sf_leR (Int32.not_lt.mp c201) sf_k0 B192
                  refine pm_R_lo pm_M67 (pc' := 5) rfl rfl rfl ?_
                  refine pm_R_lo pm_M67 (pc' := 6) rfl rfl rfl ?_
                  refine pm_R_get pm_M67 (pc' := 9) (v := .int (Int32.ofNat n193)) rfl rfl (T.im hk51 (by decide) (by decide) eE197) (G.ge hk51 (by decide)) (T.al hk51 (by decide)) rfl rfl ?_
                  refine pm_R_icmp pm_M67 (t := 16) (pc' := 12) rfl rfl rfl (fun c204 => ?_) (fun c204 => ?_)
                  · have B205 : sf_B 1 2147483637 z190 := sf_leR c204 (sf_ofB1 h196 h195 (by decide)) B203
                    refine pm_R_op pm_M67 (pc' := 17) (st' := [.int 0]) rfl rfl rfl ?_
                    refine pm_R_ret pm_M67 (r := some (.int 0)) rfl rfl ?_
                    show pm_R _ 90 54 [.ref 16, .int a0, .int a1, .long a2, pm_no, .int a3, .ref l34, .ref l49, pm_no, pm_no, pm_no] [.int 0] _ _
                    refine pm_R_br pm_M90 (pc' := 57) (st' := []) rfl rfl ?_
                    refine pm_R_op pm_M90 (pc' := 59) (st' := [.int (-2)]) rfl rfl rfl ?_
                    exact pm_R_ret pm_M90 (r := some (.int (-2))) rfl rfl (K (-2) m o h T (cl_F.refl (ck := ck) (A := [33, 34, 35]) (n := 0) (s := 0) T.1) (rf_W.refl [14, 15] m))
                  · have B206 : sf_B 0 11 z190 := sf_ltL (Int32.not_le.mp c204) B203 (sf_ofB1 h196 h195 (by decide))
                    refine pm_R_op pm_M67 (pc' := 13) (st' := [.int 1]) rfl rfl rfl ?_
                    refine pm_R_br pm_M67 (pc' := 17) rfl rfl ?_
                    refine pm_R_ret pm_M67 (r := some (.int 1)) rfl rfl ?_
                    show pm_R _ 90 54 [.ref 16, .int a0, .int a1, .long a2, pm_no, .int a3, .ref l34, .ref l49, pm_no, pm_no, pm_no] [.int 1] _ _
                    refine pm_R_br pm_M90 (pc' := 60) (st' := []) rfl rfl ?_
                    refine pm_R_lo pm_M90 (pc' := 61) rfl rfl rfl ?_
                    refine pm_R_get pm_M90 (pc' := 64) (v := .ref 33) rfl rfl T.e16 (by decide) (T.lt (by decide)) rfl rfl ?_
                    refine pm_R_lo pm_M90 (pc' := 66) rfl rfl rfl ?_
                    refine pm_R_lo pm_M90 (pc' := 68) rfl rfl rfl ?_
                    refine pm_R_cv pm_M90 (pc' := 71) (a := 33) (ra := [.ref l49, .ref l34]) (rest := []) (ls' := [.ref 33, .ref l34, .ref l49, pm_no, pm_no]) rfl rfl (Or.inl rfl) pm_M70 T.e33 rfl (by decide) (T.lt (by decide)) rfl rfl (Nat.le_of_ble_eq_true rfl) rfl rfl ?_
                    refine cl_c70 (d := d + 0) G T hk36 hk51 (fun m209 o214 h210 T211 F212 W213 X215 X216 => ?_)
                    have F217 := (cl_F.refl (ck := ck) (A := [33, 34, 35]) (n := 0) (s := 0) T.1).trans (N := 0) (S := 0) F212 (by decide) (by decide) (by decide)
                    have W218 : rf_W [14, 15] m m209 := (rf_W.refl [14, 15] m).trans W213 (by decide)
                    show pm_R _ 90 71 [.ref 16, .int a0, .int a1, .long a2, pm_no, .int a3, .ref l34, .ref l49, pm_no, pm_no, pm_no] [] _ _
                    refine pm_R_lo pm_M90 (pc' := 72) rfl rfl rfl ?_
                    refine pm_R_get pm_M90 (pc' := 75) (v := .ref 33) rfl rfl T211.e16 (by decide) (T211.lt (by decide)) rfl rfl ?_
                    refine pm_R_get pm_M90 (pc' := 78) (v := .ref 34) rfl rfl T211.e33 (by decide) (T211.lt (by decide)) rfl rfl ?_
                    refine pm_R_op pm_M90 (pc' := 79) (st' := [.int 0, .ref 34]) rfl rfl rfl ?_
                    refine pm_R_lo pm_M90 (pc' := 81) rfl rfl rfl ?_
                    refine pm_R_get pm_M90 (pc' := 84) (v := .int (Int32.ofNat n193)) rfl rfl (T211.im hk51 (by decide) (by decide) eE197) (G.ge hk51 (by decide)) (T211.al hk51 (by decide)) rfl rfl ?_
                    refine pm_R_op pm_M90 (pc' := 85) (st' := [.int 1, .int (Int32.ofNat n193), .int 0, .ref 34]) rfl rfl rfl ?_
                    refine sf_R_isub pm_M90 (pc' := 86) rfl rfl (sf_ofB1 h196 h195 (by decide)) sf_k1 (by decide) (by decide) (fun z219 e220 B221 => ?_)
                    refine pm_R_cs pm_M90 (pc' := 89) (ra := [.int z219, .int 0]) (rest := [.ref 34]) (ls' := [.int 0, .int z219]) rfl rfl (Or.inl rfl) pm_M73 rfl rfl (Nat.le_of_ble_eq_true rfl) rfl rfl ?_
                    refine pm_R_lo pm_M73 (pc' := 1) rfl rfl rfl ?_
                    refine pm_R_lo pm_M73 (pc' := 2) rfl rfl rfl ?_
                    refine pm_R_op pm_M73 (pc' := 3) (st' := [.int 1, .int z219, .int z219]) rfl rfl rfl ?_
                    refine sf_R_iadd pm_M73 (pc' := 4) rfl rfl B221 sf_k1 (by decide) (by decide) (fun z222 e223 B224 => ?_)
                    refine sf_R_imul pm_M73 (pc' := 5) rfl rfl B221 B224 (by decide) (by decide) (by decide) (fun z225 e226 B227 => ?_)
                    refine pm_R_op pm_M73 (pc' := 6) (st' := [.int 2, .int z225]) rfl rfl rfl ?_
                    refine sf_R_idiv pm_M73 (pc' := 7) rfl rfl B227 sf_k2 (by decide) (by decide) (fun z228 e229 B230 => ?_)
                    refine pm_R_lo pm_M73 (pc' := 8) rfl rfl rfl ?_
                    refine sf_R_iadd pm_M73 (pc' := 9) rfl rfl B230 sf_k0 (by decide) (by decide) (fun z231 e232 B233 => ?_)
                    refine pm_R_ret pm_M73 (r := some (.int z231)) rfl (pm_ret_i _) ?_
                    show pm_R _ 90 89 [.ref 16, .int a0, .int a1, .long a2, pm_no, .int a3, .ref l34, .ref l49, pm_no, pm_no, pm_no] [.int z231, .ref 34] _ _
                    refine pm_R_op pm_M90 (pc' := 91) (st' := [.int 6, .int z231, .ref 34]) rfl rfl rfl ?_
                    refine sf_R_imul pm_M90 (pc' := 92) rfl rfl B233 sf_k6 (by decide) (by decide) (by decide) (fun z234 e235 B236 => ?_)
                    obtain ⟨f240, e241⟩ := T211.C 34 (by decide) (by decide)
                    obtain ⟨z237, ez238⟩ : ∃ y, f240 (Int32.toNatClampNeg z234) = y := ⟨_, rfl⟩
                    refine pm_R_lald pm_M90 (pc' := 93) (v := z237) rfl e241 (by decide) (T211.lt (by decide)) (sf_in B236 (by decide) (by decide)) ez238 rfl ?_
                    refine pm_R_lo pm_M90 (pc' := 95) (ls' := [.ref 16, .int a0, .int a1, .long a2, pm_no, .int a3, .ref l34, .ref l49, .long z237, pm_no, pm_no]) (st' := []) rfl rfl rfl ?_
                    refine pm_R_lo pm_M90 (pc' := 96) rfl rfl rfl ?_
                    refine pm_R_lo pm_M90 (pc' := 98) rfl rfl rfl ?_
                    refine sf_R_lcmp pm_M90 (pc' := 99) rfl rfl (fun z243 e244 => ?_)
                    refine pm_R_ifc pm_M90 (t := 114) (pc' := 102) rfl rfl rfl (fun c245 => ?_) (fun c245 => ?_)
                    · have B246 : sf_B (-2147483648) (-1) z243 := sf_ltL c245 (sf_any z243) sf_k0
                      have k247 := lf_lt e244 B246 (by decide)
                      have k248 := sf_lneB e244 B246 (by decide)
                      refine pm_R_lo pm_M90 (pc' := 115) rfl rfl rfl ?_
                      refine pm_R_get pm_M90 (pc' := 118) (v := .ref 33) (pm_q90_1 (Nat.le_of_ble_eq_true rfl)) rfl T211.e16 (by decide) (T211.lt (by decide)) rfl rfl ?_
                      refine pm_R_lo pm_M90 (pc' := 119) (pm_q90_1 (Nat.le_of_ble_eq_true rfl)) rfl rfl ?_
                      refine pm_R_cv pm_M90 (pc' := 122) (a := 33) (ra := [.long a2]) (rest := []) (ls' := [.ref 33, .long a2, pm_no]) (pm_q90_1 (Nat.le_of_ble_eq_true rfl)) rfl (Or.inl rfl) pm_M91 T211.e33 rfl (by decide) (T211.lt (by decide)) rfl rfl (Nat.le_of_ble_eq_true rfl) rfl rfl ?_
                      refine pm_R_lo pm_M91 (pc' := 1) rfl rfl rfl ?_
                      refine pm_R_op pm_M91 (pc' := 2) (st' := [.int (-1), .ref 33]) rfl rfl rfl ?_
                      refine cl_R_put33 G pm_M91 T211 (k := 14) (pc' := 5) rfl rfl rfl (by decide) rfl rfl (sf_any _) rfl rfl rfl rfl rfl (fun h249 m252 em253 T250 F251 => ?_)
                      have F254 := F251.cl (ck := ck) T211.1
                      have F255 := F217.trans (N := 0) (S := 0) F254 (by decide) (by decide) (by decide)
                      have B256 : sf_B (-1) (-1) (m252 14) := by rw [em253]; exact sf_kn1
                      have W258 : rf_W [14, 15] m m252 := by rw [em253]; exact W218.put (by decide)
                      refine pm_R_lo pm_M91 (pc' := 6) rfl rfl rfl ?_
                      refine pm_R_op pm_M91 (pc' := 7) (st' := [.int (-1), .ref 33]) rfl rfl rfl ?_
                      refine cl_R_put33 G pm_M91 T250 (k := 15) (pc' := 10) rfl rfl rfl (by decide) rfl rfl (sf_any _) rfl rfl rfl rfl rfl (fun h259 m262 em263 T260 F261 => ?_)
                      have F264 := F261.cl (ck := ck) T250.1
                      have F265 := F255.trans (N := 0) (S := 0) F264 (by decide) (by decide) (by decide)
                      have B266 : sf_B (-1) (-1) (m262 14) := by rw [em263]; exact B256
                      have B267 : sf_B (-1) (-1) (m262 15) := by rw [em263]; exact sf_kn1
                      have W269 : rf_W [14, 15] m m262 := by rw [em263]; exact W258.put (by decide)
                      refine pm_R_lo pm_M91 (pc' := 11) rfl rfl rfl ?_
                      refine pm_R_op pm_M91 (pc' := 12) (st' := [.int 0, .ref 33]) rfl rfl rfl ?_
                      refine pm_R_op pm_M91 (pc' := 13) (st' := [.int 0, .int 0, .ref 33]) rfl rfl rfl ?_
                      refine pm_R_lo pm_M91 (pc' := 14) rfl rfl rfl ?_
                      refine pm_R_get pm_M91 (pc' := 17) (v := .ref l49) rfl rfl T260.e33 (by decide) (T260.lt (by decide)) (by show some (va_rf (o214 2)) = _; rw [X216]; rfl) rfl ?_
                      refine pm_R_get pm_M91 (pc' := 20) (v := .int (Int32.ofNat n193)) rfl rfl (T260.im hk51 (by decide) (by decide) eE197) (G.ge hk51 (by decide)) (T260.al hk51 (by decide)) rfl rfl ?_
                      refine pm_R_op pm_M91 (pc' := 21) (st' := [.int 1, .int (Int32.ofNat n193), .int 0, .int 0, .ref 33]) rfl rfl rfl ?_
                      refine sf_R_isubV pm_M91 (pc' := 22) rfl rfl (sf_ofB1 h196 h195 (by decide)) sf_k1 (by decide) (by decide) e220 ?_
                      refine pm_R_lo pm_M91 (pc' := 23) rfl rfl rfl ?_
                      refine pm_R_op pm_M91 (pc' := 24) (st' := [.int 1, .long a2, .int z219, .int 0, .int 0, .ref 33]) rfl rfl rfl ?_
                      refine pm_R_cv pm_M91 (pc' := 27) (a := 33) (ra := [.int 1, .long a2, .int z219, .int 0, .int 0]) (rest := []) (ls' := [.ref 33, .int 0, .int 0, .int z219, .long a2, pm_no, .int 1, pm_no, pm_no, pm_no, pm_no, pm_no, pm_no, pm_no, pm_no, pm_no, pm_no, pm_no]) rfl rfl (Or.inl rfl) pm_M92 T260.e33 rfl (by decide) (T260.lt (by decide)) rfl rfl (Nat.le_of_ble_eq_true rfl) rfl rfl ?_
                      refine cl_c92_1 (d := d + 0) G T260 (sf_weak sf_k0 (by decide) (by decide)) (sf_weak sf_k0 (by decide) (by decide)) B221 X215 X216 eE197 (Int32.lt_iff_toInt_lt.mpr (cl_aux16 _ (sf_ofB1 h196 h195 (by decide)).1)) (Int32.lt_iff_toInt_lt.mpr (cl_aux17 _ _ e220)) (fun r270 m272 h273 T274 F275 W276 => ?_)
                      have F277 := F265.trans (N := 0) (S := 0) F275 (by decide) (by decide) (by decide)
                      have W278 : rf_W [14, 15] m m272 := W269.trans W276 (by decide)
                      show pm_R _ 91 27 [.ref 33, .long a2, pm_no] [.int r270] _ _
                      refine pm_R_ret pm_M91 (r := some (.int r270)) rfl (pm_ret_i _) ?_
                      show pm_R _ 90 122 [.ref 16, .int a0, .int a1, .long a2, pm_no, .int a3, .ref l34, .ref l49, .long z237, pm_no, pm_no] [.int r270] _ _
                      refine pm_R_lo pm_M90 (pc' := 124) (ls' := [.ref 16, .int a0, .int a1, .long a2, pm_no, .int a3, .ref l34, .ref l49, .long z237, pm_no, .int r270]) (st' := []) (pm_q90_1 (Nat.le_of_ble_eq_true rfl)) rfl rfl ?_
                      refine pm_R_lo pm_M90 (pc' := 126) (pm_q90_1 (Nat.le_of_ble_eq_true rfl)) rfl rfl ?_
                      by_cases c279 : a3 < 0
                      · refine pm_R_tswD pm_M90 (pc' := 171) (pm_q90_1 (Nat.le_of_ble_eq_true rfl)) (Or.inl (Int32.lt_iff_toInt_lt.mp c279)) rfl ?_
                        have B280 : sf_B 3 (-1) a3 := sf_ltL c279 B189 sf_k0
                        refine pm_R_lo pm_M90 (pc' := 172) (pm_q90_1 (Nat.le_of_ble_eq_true rfl)) rfl rfl ?_
                        refine pm_R_get pm_M90 (pc' := 175) (v := .ref 33) (pm_q90_1 (Nat.le_of_ble_eq_true rfl)) rfl T274.e16 (by decide) (T274.lt (by decide)) rfl rfl ?_
                        refine pm_R_get pm_M90 (pc' := 178) (v := .ref 35) (pm_q90_1 (Nat.le_of_ble_eq_true rfl)) rfl T274.e33 (by decide) (T274.lt (by decide)) rfl rfl ?_
                        refine pm_R_lo pm_M90 (pc' := 180) (pm_q90_1 (Nat.le_of_ble_eq_true rfl)) rfl rfl ?_
                        refine pm_R_op pm_M90 (pc' := 182) (st' := [.int 10, .int a3, .ref 35]) (pm_q90_1 (Nat.le_of_ble_eq_true rfl)) rfl rfl ?_
                        refine sf_R_isubV pm_M90 (pc' := 183) (pm_q90_1 (Nat.le_of_ble_eq_true rfl)) rfl B189 sf_k10 (by decide) (by decide) e191 ?_
                        obtain ⟨f284, e285⟩ := T274.C 35 (by decide) (by decide)
                        obtain ⟨z281, ez282⟩ : ∃ y, f284 (Int32.toNatClampNeg z190) = y := ⟨_, rfl⟩
                        refine pm_R_iald pm_M90 (pc' := 184) (v := z281) (pm_q90_1 (Nat.le_of_ble_eq_true rfl)) e285 (T274.lt (by decide)) (sf_in B206 (by decide) (by decide)) ez282 rfl ?_
                        exact pm_R_ret pm_M90 (r := some (.int z281)) (pm_q90_1 (Nat.le_of_ble_eq_true rfl)) (pm_ret_i _) (K z281 m272 o214 h273 T274 F277 W278)
                      skip
                      by_cases c287 : 2 < a3
                      · refine pm_R_tswD pm_M90 (pc' := 171) (pm_q90_1 (Nat.le_of_ble_eq_true rfl)) (Or.inr (Int32.lt_iff_toInt_lt.mp c287)) rfl ?_
                        skip
                        refine pm_R_lo pm_M90 (pc' := 172) (pm_q90_1 (Nat.le_of_ble_eq_true rfl)) rfl rfl ?_
                        refine pm_R_get pm_M90 (pc' := 175) (v := .ref 33) (pm_q90_1 (Nat.le_of_ble_eq_true rfl)) rfl T274.e16 (by decide) (T274.lt (by decide)) rfl rfl ?_
                        refine pm_R_get pm_M90 (pc' := 178) (v := .ref 35) (pm_q90_1 (Nat.le_of_ble_eq_true rfl)) rfl T274.e33 (by decide) (T274.lt (by decide)) rfl rfl ?_
                        refine pm_R_lo pm_M90 (pc' := 180) (pm_q90_1 (Nat.le_of_ble_eq_true rfl)) rfl rfl ?_
                        refine pm_R_op pm_M90 (pc' := 182) (st' := [.int 10, .int a3, .ref 35]) (pm_q90_1 (Nat.le_of_ble_eq_true rfl)) rfl rfl ?_
                        refine sf_R_isubV pm_M90 (pc' := 183) (pm_q90_1 (Nat.le_of_ble_eq_true rfl)) rfl B189 sf_k10 (by decide) (by decide) e191 ?_
                        obtain ⟨f291, e292⟩ := T274.C 35 (by decide) (by decide)
                        obtain ⟨z288, ez289⟩ : ∃ y, f291 (Int32.toNatClampNeg z190) = y := ⟨_, rfl⟩
                        refine pm_R_iald pm_M90 (pc' := 184) (v := z288) (pm_q90_1 (Nat.le_of_ble_eq_true rfl)) e292 (T274.lt (by decide)) (sf_in B206 (by decide) (by decide)) ez289 rfl ?_
                        exact pm_R_ret pm_M90 (r := some (.int z288)) (pm_q90_1 (Nat.le_of_ble_eq_true rfl)) (pm_ret_i _) (K z288 m272 o214 h273 T274 F277 W278)
                      have B294 : sf_B 3 2 a3 := sf_leL (Int32.not_lt.mp c287) B189 sf_k2
                    · have B295 : sf_B 0 2147483647 z243 := sf_leR (Int32.not_lt.mp c245) sf_k0 (sf_any z243)
                      have k296 := lf_ge e244 B295 (by decide)
                      refine pm_R_lo pm_M90 (pc' := 104) rfl rfl rfl ?_
                      refine pm_R_ldc2 pm_M90 (pc' := 107) rfl rfl rfl ?_
                      refine sf_R_lcmp pm_M90 (pc' := 108) rfl rfl (fun z297 e298 => ?_)
                      refine pm_R_ifc pm_M90 (t := 114) (pc' := 111) rfl rfl rfl (fun c299 => ?_) (fun c299 => ?_)
                      · have B300 : sf_B 0 0 z297 := sf_eqL c299 sf_k0
                        have B301 : lf_B (-1) (-1) z237 := lf_eqB e298 B300 (⟨by decide, by decide⟩ : lf_B (-1) (-1) (-1))
                        refine pm_R_lo pm_M90 (pc' := 115) rfl rfl rfl ?_
                        refine pm_R_get pm_M90 (pc' := 118) (v := .ref 33) (pm_q90_1 (Nat.le_of_ble_eq_true rfl)) rfl T211.e16 (by decide) (T211.lt (by decide)) rfl rfl ?_
                        refine pm_R_lo pm_M90 (pc' := 119) (pm_q90_1 (Nat.le_of_ble_eq_true rfl)) rfl rfl ?_
                        refine pm_R_cv pm_M90 (pc' := 122) (a := 33) (ra := [.long a2]) (rest := []) (ls' := [.ref 33, .long a2, pm_no]) (pm_q90_1 (Nat.le_of_ble_eq_true rfl)) rfl (Or.inl rfl) pm_M91 T211.e33 rfl (by decide) (T211.lt (by decide)) rfl rfl (Nat.le_of_ble_eq_true rfl) rfl rfl ?_
                        refine pm_R_lo pm_M91 (pc' := 1) rfl rfl rfl ?_
                        refine pm_R_op pm_M91 (pc' := 2) (st' := [.int (-1), .ref 33]) rfl rfl rfl ?_
                        refine cl_R_put33 G pm_M91 T211 (k := 14) (pc' := 5) rfl rfl rfl (by decide) rfl rfl (sf_any _) rfl rfl rfl rfl rfl (fun h302 m305 em306 T303 F304 => ?_)
                        have F307 := F304.cl (ck := ck) T211.1
                        have F308 := F217.trans (N := 0) (S := 0) F307 (by decide) (by decide) (by decide)
                        have B309 : sf_B (-1) (-1) (m305 14) := by rw [em306]; exact sf_kn1
                        have W311 : rf_W [14, 15] m m305 := by rw [em306]; exact W218.put (by decide)
                        refine pm_R_lo pm_M91 (pc' := 6) rfl rfl rfl ?_
                        refine pm_R_op pm_M91 (pc' := 7) (st' := [.int (-1), .ref 33]) rfl rfl rfl ?_
                        refine cl_R_put33 G pm_M91 T303 (k := 15) (pc' := 10) rfl rfl rfl (by decide) rfl rfl (sf_any _) rfl rfl rfl rfl rfl (fun h312 m315 em316 T313 F314 => ?_)
                        have F317 := F314.cl (ck := ck) T303.1
                        have F318 := F308.trans (N := 0) (S := 0) F317 (by decide) (by decide) (by decide)
                        have B319 : sf_B (-1) (-1) (m315 14) := by rw [em316]; exact B309
                        have B320 : sf_B (-1) (-1) (m315 15) := by rw [em316]; exact sf_kn1
                        have W322 : rf_W [14, 15] m m315 := by rw [em316]; exact W311.put (by decide)
                        refine pm_R_lo pm_M91 (pc' := 11) rfl rfl rfl ?_
                        refine pm_R_op pm_M91 (pc' := 12) (st' := [.int 0, .ref 33]) rfl rfl rfl ?_
                        refine pm_R_op pm_M91 (pc' := 13) (st' := [.int 0, .int 0, .ref 33]) rfl rfl rfl ?_
                        refine pm_R_lo pm_M91 (pc' := 14) rfl rfl rfl ?_
                        refine pm_R_get pm_M91 (pc' := 17) (v := .ref l49) rfl rfl T313.e33 (by decide) (T313.lt (by decide)) (by show some (va_rf (o214 2)) = _; rw [X216]; rfl) rfl ?_
                        refine pm_R_get pm_M91 (pc' := 20) (v := .int (Int32.ofNat n193)) rfl rfl (T313.im hk51 (by decide) (by decide) eE197) (G.ge hk51 (by decide)) (T313.al hk51 (by decide)) rfl rfl ?_
                        refine pm_R_op pm_M91 (pc' := 21) (st' := [.int 1, .int (Int32.ofNat n193), .int 0, .int 0, .ref 33]) rfl rfl rfl ?_
                        refine sf_R_isubV pm_M91 (pc' := 22) rfl rfl (sf_ofB1 h196 h195 (by decide)) sf_k1 (by decide) (by decide) e220 ?_
                        refine pm_R_lo pm_M91 (pc' := 23) rfl rfl rfl ?_
                        refine pm_R_op pm_M91 (pc' := 24) (st' := [.int 1, .long a2, .int z219, .int 0, .int 0, .ref 33]) rfl rfl rfl ?_
                        refine pm_R_cv pm_M91 (pc' := 27) (a := 33) (ra := [.int 1, .long a2, .int z219, .int 0, .int 0]) (rest := []) (ls' := [.ref 33, .int 0, .int 0, .int z219, .long a2, pm_no, .int 1, pm_no, pm_no, pm_no, pm_no, pm_no, pm_no, pm_no, pm_no, pm_no, pm_no, pm_no]) rfl rfl (Or.inl rfl) pm_M92 T313.e33 rfl (by decide) (T313.lt (by decide)) rfl rfl (Nat.le_of_ble_eq_true rfl) rfl rfl ?_
                        refine cl_c92_1 (d := d + 0) G T313 (sf_weak sf_k0 (by decide) (by decide)) (sf_weak sf_k0 (by decide) (by decide)) B221 X215 X216 eE197 (Int32.lt_iff_toInt_lt.mpr (cl_aux16 _ (sf_ofB1 h196 h195 (by decide)).1)) (Int32.lt_iff_toInt_lt.mpr (cl_aux17 _ _ e220)) (fun r323 m325 h326 T327 F328 W329 => ?_)
                        have F330 := F318.trans (N := 0) (S := 0) F328 (by decide) (by decide) (by decide)
                        have W331 : rf_W [14, 15] m m325 := W322.trans W329 (by decide)
                        show pm_R _ 91 27 [.ref 33, .long a2, pm_no] [.int r323] _ _
                        refine pm_R_ret pm_M91 (r := some (.int r323)) rfl (pm_ret_i _) ?_
                        show pm_R _ 90 122 [.ref 16, .int a0, .int a1, .long a2, pm_no, .int a3, .ref l34, .ref l49, .long z237, pm_no, pm_no] [.int r323] _ _
                        refine pm_R_lo pm_M90 (pc' := 124) (ls' := [.ref 16, .int a0, .int a1, .long a2, pm_no, .int a3, .ref l34, .ref l49, .long z237, pm_no, .int r323]) (st' := []) (pm_q90_1 (Nat.le_of_ble_eq_true rfl)) rfl rfl ?_
                        refine pm_R_lo pm_M90 (pc' := 126) (pm_q90_1 (Nat.le_of_ble_eq_true rfl)) rfl rfl ?_
                        by_cases c332 : a3 < 0
                        · refine pm_R_tswD pm_M90 (pc' := 171) (pm_q90_1 (Nat.le_of_ble_eq_true rfl)) (Or.inl (Int32.lt_iff_toInt_lt.mp c332)) rfl ?_
                          have B333 : sf_B 3 (-1) a3 := sf_ltL c332 B189 sf_k0
                          refine pm_R_lo pm_M90 (pc' := 172) (pm_q90_1 (Nat.le_of_ble_eq_true rfl)) rfl rfl ?_
                          refine pm_R_get pm_M90 (pc' := 175) (v := .ref 33) (pm_q90_1 (Nat.le_of_ble_eq_true rfl)) rfl T327.e16 (by decide) (T327.lt (by decide)) rfl rfl ?_
                          refine pm_R_get pm_M90 (pc' := 178) (v := .ref 35) (pm_q90_1 (Nat.le_of_ble_eq_true rfl)) rfl T327.e33 (by decide) (T327.lt (by decide)) rfl rfl ?_
                          refine pm_R_lo pm_M90 (pc' := 180) (pm_q90_1 (Nat.le_of_ble_eq_true rfl)) rfl rfl ?_
                          refine pm_R_op pm_M90 (pc' := 182) (st' := [.int 10, .int a3, .ref 35]) (pm_q90_1 (Nat.le_of_ble_eq_true rfl)) rfl rfl ?_
                          refine sf_R_isubV pm_M90 (pc' := 183) (pm_q90_1 (Nat.le_of_ble_eq_true rfl)) rfl B189 sf_k10 (by decide) (by decide) e191 ?_
                          obtain ⟨f337, e338⟩ := T327.C 35 (by decide) (by decide)
                          obtain ⟨z334, ez335⟩ : ∃ y, f337 (Int32.toNatClampNeg z190) = y := ⟨_, rfl⟩
                          refine pm_R_iald pm_M90 (pc' := 184) (v := z334) (pm_q90_1 (Nat.le_of_ble_eq_true rfl)) e338 (T327.lt (by decide)) (sf_in B206 (by decide) (by decide)) ez335 rfl ?_
                          exact pm_R_ret pm_M90 (r := some (.int z334)) (pm_q90_1 (Nat.le_of_ble_eq_true rfl)) (pm_ret_i _) (K z334 m325 o214 h326 T327 F330 W331)
                        skip
                        by_cases c340 : 2 < a3
                        · refine pm_R_tswD pm_M90 (pc' := 171) (pm_q90_1 (Nat.le_of_ble_eq_true rfl)) (Or.inr (Int32.lt_iff_toInt_lt.mp c340)) rfl ?_
                          skip
                          refine pm_R_lo pm_M90 (pc' := 172) (pm_q90_1 (Nat.le_of_ble_eq_true rfl)) rfl rfl ?_
                          refine pm_R_get pm_M90 (pc' := 175) (v := .ref 33) (pm_q90_1 (Nat.le_of_ble_eq_true rfl)) rfl T327.e16 (by decide) (T327.lt (by decide)) rfl rfl ?_
                          refine pm_R_get pm_M90 (pc' := 178) (v := .ref 35) (pm_q90_1 (Nat.le_of_ble_eq_true rfl)) rfl T327.e33 (by decide) (T327.lt (by decide)) rfl rfl ?_
                          refine pm_R_lo pm_M90 (pc' := 180) (pm_q90_1 (Nat.le_of_ble_eq_true rfl)) rfl rfl ?_
                          refine pm_R_op pm_M90 (pc' := 182) (st' := [.int 10, .int a3, .ref 35]) (pm_q90_1 (Nat.le_of_ble_eq_true rfl)) rfl rfl ?_
                          refine sf_R_isubV pm_M90 (pc' := 183) (pm_q90_1 (Nat.le_of_ble_eq_true rfl)) rfl B189 sf_k10 (by decide) (by decide) e191 ?_
                          obtain ⟨f344, e345⟩ := T327.C 35 (by decide) (by decide)
                          obtain ⟨z341, ez342⟩ : ∃ y, f344 (Int32.toNatClampNeg z190) = y := ⟨_, rfl⟩
                          refine pm_R_iald pm_M90 (pc' := 184) (v := z341) (pm_q90_1 (Nat.le_of_ble_eq_true rfl)) e345 (T327.lt (by decide)) (sf_in B206 (by decide) (by decide)) ez342 rfl ?_
                          exact pm_R_ret pm_M90 (r := some (.int z341)) (pm_q90_1 (Nat.le_of_ble_eq_true rfl)) (pm_ret_i _) (K z341 m325 o214 h326 T327 F330 W331)
                        have B347 : sf_B 3 2 a3 := sf_leL (Int32.not_lt.mp c340) B189 sf_k2
                      · have k348 := sf_lneC e298 c299
                        refine pm_R_op pm_M90 (pc' := 113) (st' := [.int (-2)]) rfl rfl rfl ?_
                        exact pm_R_ret pm_M90 (r := some (.int (-2))) rfl rfl (K (-2) m209 o214 h210 T211 F217 W218)
          · have B349 : sf_B (-2147483648) (-1) z52 := sf_ltL (Int32.not_le.mp c54) (sf_any z52) sf_k0
            have k350 := lf_lt e53 B349 (by decide)
            have k351 := sf_lneB e53 B349 (by decide)
            refine pm_R_op pm_M90 (pc' := 32) (st' := [.int (-2)]) rfl rfl rfl ?_
            exact pm_R_ret pm_M90 (r := some (.int (-2))) rfl rfl (K (-2) m o h T (cl_F.refl (ck := ck) (A := [33, 34, 35]) (n := 0) (s := 0) T.1) (rf_W.refl [14, 15] m))
        · skip
          refine pm_R_op pm_M66 (pc' := 18) (st' := [.null]) rfl rfl rfl ?_
          refine pm_R_br pm_M66 (pc' := 30) rfl rfl ?_
          refine pm_R_ret pm_M66 (r := some (.null)) rfl rfl ?_
          show pm_R _ 90 12 [.ref 16, .int a0, .int a1, .long a2, pm_no, .int a3, .ref l34, pm_no, pm_no, pm_no, pm_no] [.null] _ _
          refine pm_R_lo pm_M90 (pc' := 14) (ls' := [.ref 16, .int a0, .int a1, .long a2, pm_no, .int a3, .ref l34, .null, pm_no, pm_no, pm_no]) (st' := []) rfl rfl rfl ?_
          refine pm_R_lo pm_M90 (pc' := 16) rfl rfl rfl ?_
          refine pm_R_br pm_M90 (pc' := 19) rfl rfl ?_
          refine pm_R_lo pm_M90 (pc' := 21) rfl rfl rfl ?_
          refine pm_R_br pm_M90 (pc' := 30) rfl rfl ?_
          refine pm_R_op pm_M90 (pc' := 32) (st' := [.int (-2)]) rfl rfl rfl ?_
          exact pm_R_ret pm_M90 (r := some (.int (-2))) rfl rfl (K (-2) m o h T (cl_F.refl (ck := ck) (A := [33, 34, 35]) (n := 0) (s := 0) T.1) (rf_W.refl [14, 15] m))
    · skip
      refine pm_R_op pm_M62 (pc' := 18) (st' := [.null]) rfl rfl rfl ?_
      refine pm_R_br pm_M62 (pc' := 30) rfl rfl ?_
      refine pm_R_ret pm_M62 (r := some (.null)) rfl rfl ?_
      show pm_R _ 90 5 [.ref 16, .int a0, .int a1, .long a2, pm_no, .int a3, pm_no, pm_no, pm_no, pm_no, pm_no] [.null] _ _
      refine pm_R_lo pm_M90 (pc' := 7) (ls' := [.ref 16, .int a0, .int a1, .long a2, pm_no, .int a3, .null, pm_no, pm_no, pm_no, pm_no]) (st' := []) rfl rfl rfl ?_
      refine pm_R_lo pm_M90 (pc' := 8) rfl rfl rfl ?_
      refine pm_R_lo pm_M90 (pc' := 9) rfl rfl rfl ?_
      refine pm_R_cv pm_M90 (pc' := 12) (a := 16) (ra := [.int a1]) (rest := []) (ls' := [.ref 16, .int a1]) rfl rfl (Or.inl rfl) pm_M66 T.e16 rfl (by decide) (T.lt (by decide)) rfl rfl (Nat.le_of_ble_eq_true rfl) rfl rfl ?_
      refine pm_R_lo pm_M66 (pc' := 1) rfl rfl rfl ?_
      refine pm_R_ifc pm_M66 (t := 17) (pc' := 4) rfl rfl rfl (fun c352 => ?_) (fun c352 => ?_)
      · have B353 : sf_B (-2147483648) (-1) a1 := sf_ltL c352 (sf_any a1) sf_k0
        refine pm_R_op pm_M66 (pc' := 18) (st' := [.null]) rfl rfl rfl ?_
        refine pm_R_br pm_M66 (pc' := 30) rfl rfl ?_
        refine pm_R_ret pm_M66 (r := some (.null)) rfl rfl ?_
        show pm_R _ 90 12 [.ref 16, .int a0, .int a1, .long a2, pm_no, .int a3, .null, pm_no, pm_no, pm_no, pm_no] [.null] _ _
        refine pm_R_lo pm_M90 (pc' := 14) (ls' := [.ref 16, .int a0, .int a1, .long a2, pm_no, .int a3, .null, .null, pm_no, pm_no, pm_no]) (st' := []) rfl rfl rfl ?_
        refine pm_R_lo pm_M90 (pc' := 16) rfl rfl rfl ?_
        refine pm_R_br pm_M90 (pc' := 30) rfl rfl ?_
        refine pm_R_op pm_M90 (pc' := 32) (st' := [.int (-2)]) rfl rfl rfl ?_
        exact pm_R_ret pm_M90 (r := some (.int (-2))) rfl rfl (K (-2) m o h T (cl_F.refl (ck := ck) (A := [33, 34, 35]) (n := 0) (s := 0) T.1) (rf_W.refl [14, 15] m))
      · have B354 : sf_B 0 2147483647 a1 := sf_leR (Int32.not_lt.mp c352) sf_k0 (sf_any a1)
        refine pm_R_lo pm_M66 (pc' := 5) rfl rfl rfl ?_
        refine pm_R_lo pm_M66 (pc' := 6) rfl rfl rfl ?_
        refine pm_R_get pm_M66 (pc' := 9) (v := .ref 17) rfl rfl T.e16 (by decide) (T.lt (by decide)) rfl rfl ?_
        refine pm_R_get pm_M66 (pc' := 12) (v := .ref 23) rfl rfl T.e17 (by decide) (T.lt (by decide)) rfl rfl ?_
        refine pm_R_op pm_M66 (pc' := 13) (st' := [.int 1, .ref 23, .int a1]) rfl rfl rfl ?_
        obtain ⟨z355, ez356⟩ : ∃ y, f25 (Int32.toNatClampNeg 1) = y := ⟨_, rfl⟩
        have B357 : sf_B 0 3 z355 := ez356 ▸ (b27 1)
        refine pm_R_iald pm_M66 (pc' := 14) (v := z355) rfl e26 (T.lt (by decide)) rfl ez356 rfl ?_
        refine pm_R_icmp pm_M66 (t := 21) (pc' := 17) rfl rfl rfl (fun c358 => ?_) (fun c358 => ?_)
        · have B359 : sf_B 0 2 a1 := sf_ltL c358 B354 B357
          have B360 : sf_B 1 3 z355 := sf_ltR c358 B354 B357
          refine pm_R_lo pm_M66 (pc' := 22) rfl rfl rfl ?_
          refine pm_R_get pm_M66 (pc' := 25) (v := .ref 17) rfl rfl T.e16 (by decide) (T.lt (by decide)) rfl rfl ?_
          refine pm_R_get pm_M66 (pc' := 28) (v := .ref 20) rfl rfl T.e17 (by decide) (T.lt (by decide)) rfl rfl ?_
          refine pm_R_lo pm_M66 (pc' := 29) rfl rfl rfl ?_
          obtain ⟨f361, e362, b363⟩ := T.C 20 (by decide) (by decide)
          obtain ⟨l364, hx365⟩ := cl_there1 T e26 e362 ez356 c358 B359 (by decide)
          have hk366 := b363 _ _ hx365
          refine pm_R_aald pm_M66 (pc' := 30) (v := .ref l364) rfl e362 (by decide) (by decide) (by decide) (T.lt (by decide)) (sf_in B359 (by decide) (by decide)) (by rw [hx365]; rfl) rfl ?_
          refine pm_R_ret pm_M66 (r := some (.ref l364)) rfl rfl ?_
          show pm_R _ 90 12 [.ref 16, .int a0, .int a1, .long a2, pm_no, .int a3, .null, pm_no, pm_no, pm_no, pm_no] [.ref l364] _ _
          refine pm_R_lo pm_M90 (pc' := 14) (ls' := [.ref 16, .int a0, .int a1, .long a2, pm_no, .int a3, .null, .ref l364, pm_no, pm_no, pm_no]) (st' := []) rfl rfl rfl ?_
          refine pm_R_lo pm_M90 (pc' := 16) rfl rfl rfl ?_
          refine pm_R_br pm_M90 (pc' := 30) rfl rfl ?_
          refine pm_R_op pm_M90 (pc' := 32) (st' := [.int (-2)]) rfl rfl rfl ?_
          exact pm_R_ret pm_M90 (r := some (.int (-2))) rfl rfl (K (-2) m o h T (cl_F.refl (ck := ck) (A := [33, 34, 35]) (n := 0) (s := 0) T.1) (rf_W.refl [14, 15] m))
        · skip
          refine pm_R_op pm_M66 (pc' := 18) (st' := [.null]) rfl rfl rfl ?_
          refine pm_R_br pm_M66 (pc' := 30) rfl rfl ?_
          refine pm_R_ret pm_M66 (r := some (.null)) rfl rfl ?_
          show pm_R _ 90 12 [.ref 16, .int a0, .int a1, .long a2, pm_no, .int a3, .null, pm_no, pm_no, pm_no, pm_no] [.null] _ _
          refine pm_R_lo pm_M90 (pc' := 14) (ls' := [.ref 16, .int a0, .int a1, .long a2, pm_no, .int a3, .null, .null, pm_no, pm_no, pm_no]) (st' := []) rfl rfl rfl ?_
          refine pm_R_lo pm_M90 (pc' := 16) rfl rfl rfl ?_
          refine pm_R_br pm_M90 (pc' := 30) rfl rfl ?_
          refine pm_R_op pm_M90 (pc' := 32) (st' := [.int (-2)]) rfl rfl rfl ?_
          exact pm_R_ret pm_M90 (r := some (.int (-2))) rfl rfl (K (-2) m o h T (cl_F.refl (ck := ck) (A := [33, 34, 35]) (n := 0) (s := 0) T.1) (rf_W.refl [14, 15] m))

set_option maxRecDepth 100000 in
set_option maxHeartbeats 4000000 in
/-- SilentTable.doubt -/
theorem cl_c94 {d : Nat} {ck : cl_K} {E : Nat → pm_E} {m : Nat → Int32} {o : Nat → Option Nat} {h : pm_H} {Q : Option Value → pm_H → Prop} {a0 : Int32} {a1 : Int32} {a2 : Int32} (G : cl_G ck E) (T : cl_T ck E m o h)  (K : ∀ (r : Int32) (m' : Nat → Int32) (o' : Nat → Option Nat) (h' : pm_H), cl_T ck E m' o' h' → cl_F ck [33, 34, 36] 0 0 h h' → rf_W [] m m' → Q (some (.int r)) h') : pm_R (d + 4) 94 0 [.ref 16, .int a0, .int a1, .int a2, pm_no, pm_no] [] h Q := by
  refine pm_R_lo pm_M94 (pc' := 1) rfl rfl rfl ?_
  refine pm_R_lo pm_M94 (pc' := 2) rfl rfl rfl ?_
  refine pm_R_cv pm_M94 (pc' := 5) (a := 16) (ra := [.int a0]) (rest := []) (ls' := [.ref 16, .int a0]) rfl rfl (Or.inl rfl) pm_M62 T.e16 rfl (by decide) (T.lt (by decide)) rfl rfl (Nat.le_of_ble_eq_true rfl) rfl rfl ?_
  refine pm_R_lo pm_M62 (pc' := 1) rfl rfl rfl ?_
  refine pm_R_ifc pm_M62 (t := 17) (pc' := 4) rfl rfl rfl (fun c1 => ?_) (fun c1 => ?_)
  · have B2 : sf_B (-2147483648) (-1) a0 := sf_ltL c1 (sf_any a0) sf_k0
    refine pm_R_op pm_M62 (pc' := 18) (st' := [.null]) rfl rfl rfl ?_
    refine pm_R_br pm_M62 (pc' := 30) rfl rfl ?_
    refine pm_R_ret pm_M62 (r := some (.null)) rfl rfl ?_
    show pm_R _ 94 5 [.ref 16, .int a0, .int a1, .int a2, pm_no, pm_no] [.null] _ _
    refine pm_R_lo pm_M94 (pc' := 7) (ls' := [.ref 16, .int a0, .int a1, .int a2, .null, pm_no]) (st' := []) rfl rfl rfl ?_
    refine pm_R_lo pm_M94 (pc' := 8) rfl rfl rfl ?_
    refine pm_R_lo pm_M94 (pc' := 9) rfl rfl rfl ?_
    refine pm_R_cv pm_M94 (pc' := 12) (a := 16) (ra := [.int a1]) (rest := []) (ls' := [.ref 16, .int a1]) rfl rfl (Or.inl rfl) pm_M66 T.e16 rfl (by decide) (T.lt (by decide)) rfl rfl (Nat.le_of_ble_eq_true rfl) rfl rfl ?_
    refine pm_R_lo pm_M66 (pc' := 1) rfl rfl rfl ?_
    refine pm_R_ifc pm_M66 (t := 17) (pc' := 4) rfl rfl rfl (fun c3 => ?_) (fun c3 => ?_)
    · have B4 : sf_B (-2147483648) (-1) a1 := sf_ltL c3 (sf_any a1) sf_k0
      refine pm_R_op pm_M66 (pc' := 18) (st' := [.null]) rfl rfl rfl ?_
      refine pm_R_br pm_M66 (pc' := 30) rfl rfl ?_
      refine pm_R_ret pm_M66 (r := some (.null)) rfl rfl ?_
      show pm_R _ 94 12 [.ref 16, .int a0, .int a1, .int a2, .null, pm_no] [.null] _ _
      refine pm_R_lo pm_M94 (pc' := 14) (ls' := [.ref 16, .int a0, .int a1, .int a2, .null, .null]) (st' := []) rfl rfl rfl ?_
      refine pm_R_lo pm_M94 (pc' := 16) rfl rfl rfl ?_
      refine pm_R_br pm_M94 (pc' := 33) rfl rfl ?_
      refine pm_R_op pm_M94 (pc' := 34) (st' := [.int (-1)]) rfl rfl rfl ?_
      exact pm_R_ret pm_M94 (r := some (.int (-1))) rfl rfl (K (-1) m o h T (cl_F.refl (ck := ck) (A := [33, 34, 36]) (n := 0) (s := 0) T.1) (rf_W.refl [] m))
    · have B5 : sf_B 0 2147483647 a1 := sf_leR (Int32.not_lt.mp c3) sf_k0 (sf_any a1)
      refine pm_R_lo pm_M66 (pc' := 5) rfl rfl rfl ?_
      refine pm_R_lo pm_M66 (pc' := 6) rfl rfl rfl ?_
      refine pm_R_get pm_M66 (pc' := 9) (v := .ref 17) rfl rfl T.e16 (by decide) (T.lt (by decide)) rfl rfl ?_
      refine pm_R_get pm_M66 (pc' := 12) (v := .ref 23) rfl rfl T.e17 (by decide) (T.lt (by decide)) rfl rfl ?_
      refine pm_R_op pm_M66 (pc' := 13) (st' := [.int 1, .ref 23, .int a1]) rfl rfl rfl ?_
      obtain ⟨f9, e10, b11⟩ := T.C 23 (by decide) (by decide)
      obtain ⟨z6, ez7⟩ : ∃ y, f9 (Int32.toNatClampNeg 1) = y := ⟨_, rfl⟩
      have B8 : sf_B 0 3 z6 := ez7 ▸ (b11 1)
      refine pm_R_iald pm_M66 (pc' := 14) (v := z6) rfl e10 (T.lt (by decide)) rfl ez7 rfl ?_
      refine pm_R_icmp pm_M66 (t := 21) (pc' := 17) rfl rfl rfl (fun c12 => ?_) (fun c12 => ?_)
      · have B13 : sf_B 0 2 a1 := sf_ltL c12 B5 B8
        have B14 : sf_B 1 3 z6 := sf_ltR c12 B5 B8
        refine pm_R_lo pm_M66 (pc' := 22) rfl rfl rfl ?_
        refine pm_R_get pm_M66 (pc' := 25) (v := .ref 17) rfl rfl T.e16 (by decide) (T.lt (by decide)) rfl rfl ?_
        refine pm_R_get pm_M66 (pc' := 28) (v := .ref 20) rfl rfl T.e17 (by decide) (T.lt (by decide)) rfl rfl ?_
        refine pm_R_lo pm_M66 (pc' := 29) rfl rfl rfl ?_
        obtain ⟨f15, e16, b17⟩ := T.C 20 (by decide) (by decide)
        obtain ⟨l18, hx19⟩ := cl_there1 T e10 e16 ez7 c12 B13 (by decide)
        have hk20 := b17 _ _ hx19
        refine pm_R_aald pm_M66 (pc' := 30) (v := .ref l18) rfl e16 (by decide) (by decide) (by decide) (T.lt (by decide)) (sf_in B13 (by decide) (by decide)) (by rw [hx19]; rfl) rfl ?_
        refine pm_R_ret pm_M66 (r := some (.ref l18)) rfl rfl ?_
        show pm_R _ 94 12 [.ref 16, .int a0, .int a1, .int a2, .null, pm_no] [.ref l18] _ _
        refine pm_R_lo pm_M94 (pc' := 14) (ls' := [.ref 16, .int a0, .int a1, .int a2, .null, .ref l18]) (st' := []) rfl rfl rfl ?_
        refine pm_R_lo pm_M94 (pc' := 16) rfl rfl rfl ?_
        refine pm_R_br pm_M94 (pc' := 33) rfl rfl ?_
        refine pm_R_op pm_M94 (pc' := 34) (st' := [.int (-1)]) rfl rfl rfl ?_
        exact pm_R_ret pm_M94 (r := some (.int (-1))) rfl rfl (K (-1) m o h T (cl_F.refl (ck := ck) (A := [33, 34, 36]) (n := 0) (s := 0) T.1) (rf_W.refl [] m))
      · skip
        refine pm_R_op pm_M66 (pc' := 18) (st' := [.null]) rfl rfl rfl ?_
        refine pm_R_br pm_M66 (pc' := 30) rfl rfl ?_
        refine pm_R_ret pm_M66 (r := some (.null)) rfl rfl ?_
        show pm_R _ 94 12 [.ref 16, .int a0, .int a1, .int a2, .null, pm_no] [.null] _ _
        refine pm_R_lo pm_M94 (pc' := 14) (ls' := [.ref 16, .int a0, .int a1, .int a2, .null, .null]) (st' := []) rfl rfl rfl ?_
        refine pm_R_lo pm_M94 (pc' := 16) rfl rfl rfl ?_
        refine pm_R_br pm_M94 (pc' := 33) rfl rfl ?_
        refine pm_R_op pm_M94 (pc' := 34) (st' := [.int (-1)]) rfl rfl rfl ?_
        exact pm_R_ret pm_M94 (r := some (.int (-1))) rfl rfl (K (-1) m o h T (cl_F.refl (ck := ck) (A := [33, 34, 36]) (n := 0) (s := 0) T.1) (rf_W.refl [] m))
  · have B21 : sf_B 0 2147483647 a0 := sf_leR (Int32.not_lt.mp c1) sf_k0 (sf_any a0)
    refine pm_R_lo pm_M62 (pc' := 5) rfl rfl rfl ?_
    refine pm_R_lo pm_M62 (pc' := 6) rfl rfl rfl ?_
    refine pm_R_get pm_M62 (pc' := 9) (v := .ref 17) rfl rfl T.e16 (by decide) (T.lt (by decide)) rfl rfl ?_
    refine pm_R_get pm_M62 (pc' := 12) (v := .ref 23) rfl rfl T.e17 (by decide) (T.lt (by decide)) rfl rfl ?_
    refine pm_R_op pm_M62 (pc' := 13) (st' := [.int 0, .ref 23, .int a0]) rfl rfl rfl ?_
    obtain ⟨f25, e26, b27⟩ := T.C 23 (by decide) (by decide)
    obtain ⟨z22, ez23⟩ : ∃ y, f25 (Int32.toNatClampNeg 0) = y := ⟨_, rfl⟩
    have B24 : sf_B 0 2 z22 := ez23 ▸ (b27 0)
    refine pm_R_iald pm_M62 (pc' := 14) (v := z22) rfl e26 (T.lt (by decide)) rfl ez23 rfl ?_
    refine pm_R_icmp pm_M62 (t := 21) (pc' := 17) rfl rfl rfl (fun c28 => ?_) (fun c28 => ?_)
    · have B29 : sf_B 0 1 a0 := sf_ltL c28 B21 B24
      have B30 : sf_B 1 2 z22 := sf_ltR c28 B21 B24
      refine pm_R_lo pm_M62 (pc' := 22) rfl rfl rfl ?_
      refine pm_R_get pm_M62 (pc' := 25) (v := .ref 17) rfl rfl T.e16 (by decide) (T.lt (by decide)) rfl rfl ?_
      refine pm_R_get pm_M62 (pc' := 28) (v := .ref 19) rfl rfl T.e17 (by decide) (T.lt (by decide)) rfl rfl ?_
      refine pm_R_lo pm_M62 (pc' := 29) rfl rfl rfl ?_
      obtain ⟨f31, e32, b33⟩ := T.C 19 (by decide) (by decide)
      obtain ⟨l34, hx35⟩ := cl_there0 T e26 e32 ez23 c28 B29 (by decide)
      have hk36 := b33 _ _ hx35
      refine pm_R_aald pm_M62 (pc' := 30) (v := .ref l34) rfl e32 (by decide) (by decide) (by decide) (T.lt (by decide)) (sf_in B29 (by decide) (by decide)) (by rw [hx35]; rfl) rfl ?_
      refine pm_R_ret pm_M62 (r := some (.ref l34)) rfl rfl ?_
      show pm_R _ 94 5 [.ref 16, .int a0, .int a1, .int a2, pm_no, pm_no] [.ref l34] _ _
      refine pm_R_lo pm_M94 (pc' := 7) (ls' := [.ref 16, .int a0, .int a1, .int a2, .ref l34, pm_no]) (st' := []) rfl rfl rfl ?_
      refine pm_R_lo pm_M94 (pc' := 8) rfl rfl rfl ?_
      refine pm_R_lo pm_M94 (pc' := 9) rfl rfl rfl ?_
      refine pm_R_cv pm_M94 (pc' := 12) (a := 16) (ra := [.int a1]) (rest := []) (ls' := [.ref 16, .int a1]) rfl rfl (Or.inl rfl) pm_M66 T.e16 rfl (by decide) (T.lt (by decide)) rfl rfl (Nat.le_of_ble_eq_true rfl) rfl rfl ?_
      refine pm_R_lo pm_M66 (pc' := 1) rfl rfl rfl ?_
      refine pm_R_ifc pm_M66 (t := 17) (pc' := 4) rfl rfl rfl (fun c37 => ?_) (fun c37 => ?_)
      · have B38 : sf_B (-2147483648) (-1) a1 := sf_ltL c37 (sf_any a1) sf_k0
        refine pm_R_op pm_M66 (pc' := 18) (st' := [.null]) rfl rfl rfl ?_
        refine pm_R_br pm_M66 (pc' := 30) rfl rfl ?_
        refine pm_R_ret pm_M66 (r := some (.null)) rfl rfl ?_
        show pm_R _ 94 12 [.ref 16, .int a0, .int a1, .int a2, .ref l34, pm_no] [.null] _ _
        refine pm_R_lo pm_M94 (pc' := 14) (ls' := [.ref 16, .int a0, .int a1, .int a2, .ref l34, .null]) (st' := []) rfl rfl rfl ?_
        refine pm_R_lo pm_M94 (pc' := 16) rfl rfl rfl ?_
        refine pm_R_br pm_M94 (pc' := 19) rfl rfl ?_
        refine pm_R_lo pm_M94 (pc' := 21) rfl rfl rfl ?_
        refine pm_R_br pm_M94 (pc' := 33) rfl rfl ?_
        refine pm_R_op pm_M94 (pc' := 34) (st' := [.int (-1)]) rfl rfl rfl ?_
        exact pm_R_ret pm_M94 (r := some (.int (-1))) rfl rfl (K (-1) m o h T (cl_F.refl (ck := ck) (A := [33, 34, 36]) (n := 0) (s := 0) T.1) (rf_W.refl [] m))
      · have B39 : sf_B 0 2147483647 a1 := sf_leR (Int32.not_lt.mp c37) sf_k0 (sf_any a1)
        refine pm_R_lo pm_M66 (pc' := 5) rfl rfl rfl ?_
        refine pm_R_lo pm_M66 (pc' := 6) rfl rfl rfl ?_
        refine pm_R_get pm_M66 (pc' := 9) (v := .ref 17) rfl rfl T.e16 (by decide) (T.lt (by decide)) rfl rfl ?_
        refine pm_R_get pm_M66 (pc' := 12) (v := .ref 23) rfl rfl T.e17 (by decide) (T.lt (by decide)) rfl rfl ?_
        refine pm_R_op pm_M66 (pc' := 13) (st' := [.int 1, .ref 23, .int a1]) rfl rfl rfl ?_
        obtain ⟨z40, ez41⟩ : ∃ y, f25 (Int32.toNatClampNeg 1) = y := ⟨_, rfl⟩
        have B42 : sf_B 0 3 z40 := ez41 ▸ (b27 1)
        refine pm_R_iald pm_M66 (pc' := 14) (v := z40) rfl e26 (T.lt (by decide)) rfl ez41 rfl ?_
        refine pm_R_icmp pm_M66 (t := 21) (pc' := 17) rfl rfl rfl (fun c43 => ?_) (fun c43 => ?_)
        · have B44 : sf_B 0 2 a1 := sf_ltL c43 B39 B42
          have B45 : sf_B 1 3 z40 := sf_ltR c43 B39 B42
          refine pm_R_lo pm_M66 (pc' := 22) rfl rfl rfl ?_
          refine pm_R_get pm_M66 (pc' := 25) (v := .ref 17) rfl rfl T.e16 (by decide) (T.lt (by decide)) rfl rfl ?_
          refine pm_R_get pm_M66 (pc' := 28) (v := .ref 20) rfl rfl T.e17 (by decide) (T.lt (by decide)) rfl rfl ?_
          refine pm_R_lo pm_M66 (pc' := 29) rfl rfl rfl ?_
          obtain ⟨f46, e47, b48⟩ := T.C 20 (by decide) (by decide)
          obtain ⟨l49, hx50⟩ := cl_there1 T e26 e47 ez41 c43 B44 (by decide)
          have hk51 := b48 _ _ hx50
          refine pm_R_aald pm_M66 (pc' := 30) (v := .ref l49) rfl e47 (by decide) (by decide) (by decide) (T.lt (by decide)) (sf_in B44 (by decide) (by decide)) (by rw [hx50]; rfl) rfl ?_
          refine pm_R_ret pm_M66 (r := some (.ref l49)) rfl rfl ?_
          show pm_R _ 94 12 [.ref 16, .int a0, .int a1, .int a2, .ref l34, pm_no] [.ref l49] _ _
          refine pm_R_lo pm_M94 (pc' := 14) (ls' := [.ref 16, .int a0, .int a1, .int a2, .ref l34, .ref l49]) (st' := []) rfl rfl rfl ?_
          refine pm_R_lo pm_M94 (pc' := 16) rfl rfl rfl ?_
          refine pm_R_br pm_M94 (pc' := 19) rfl rfl ?_
          refine pm_R_lo pm_M94 (pc' := 21) rfl rfl rfl ?_
          refine pm_R_br pm_M94 (pc' := 24) rfl rfl ?_
          refine pm_R_lo pm_M94 (pc' := 26) rfl rfl rfl ?_
          refine pm_R_lo pm_M94 (pc' := 27) rfl rfl rfl ?_
          obtain ⟨n52, f53, h54, h55, eE56, eE57, b58⟩ := (G.2.2.1 l49 hk51).2
          have kq59 := (G.2.2.1 l49 hk51).1
          refine pm_R_cv pm_M94 (pc' := 30) (a := l49) (ra := [.int a2]) (rest := []) (ls' := [.ref l49, .int a2]) rfl rfl (Or.inl rfl) pm_M67 (T.im hk51 (by decide) (by decide) eE56) rfl (G.ge hk51 (by decide)) (T.al hk51 (by decide)) rfl rfl (Nat.le_of_ble_eq_true rfl) rfl rfl ?_
          refine pm_R_lo pm_M67 (pc' := 1) rfl rfl rfl ?_
          refine pm_R_ifc pm_M67 (t := 16) (pc' := 4) rfl rfl rfl (fun c60 => ?_) (fun c60 => ?_)
          · have B61 : sf_B (-2147483648) (-1) a2 := sf_ltL c60 (sf_any a2) sf_k0
            refine pm_R_op pm_M67 (pc' := 17) (st' := [.int 0]) rfl rfl rfl ?_
            refine pm_R_ret pm_M67 (r := some (.int 0)) rfl rfl ?_
            show pm_R _ 94 30 [.ref 16, .int a0, .int a1, .int a2, .ref l34, .ref l49] [.int 0] _ _
            refine pm_R_br pm_M94 (pc' := 33) (st' := []) rfl rfl ?_
            refine pm_R_op pm_M94 (pc' := 34) (st' := [.int (-1)]) rfl rfl rfl ?_
            exact pm_R_ret pm_M94 (r := some (.int (-1))) rfl rfl (K (-1) m o h T (cl_F.refl (ck := ck) (A := [33, 34, 36]) (n := 0) (s := 0) T.1) (rf_W.refl [] m))
          · have B62 : sf_B 0 2147483647 a2 := sf_leR (Int32.not_lt.mp c60) sf_k0 (sf_any a2)
            refine pm_R_lo pm_M67 (pc' := 5) rfl rfl rfl ?_
            refine pm_R_lo pm_M67 (pc' := 6) rfl rfl rfl ?_
            refine pm_R_get pm_M67 (pc' := 9) (v := .int (Int32.ofNat n52)) rfl rfl (T.im hk51 (by decide) (by decide) eE56) (G.ge hk51 (by decide)) (T.al hk51 (by decide)) rfl rfl ?_
            refine pm_R_icmp pm_M67 (t := 16) (pc' := 12) rfl rfl rfl (fun c63 => ?_) (fun c63 => ?_)
            · have B64 : sf_B 1 2147483647 a2 := sf_leR c63 (sf_ofB1 h55 h54 (by decide)) B62
              refine pm_R_op pm_M67 (pc' := 17) (st' := [.int 0]) rfl rfl rfl ?_
              refine pm_R_ret pm_M67 (r := some (.int 0)) rfl rfl ?_
              show pm_R _ 94 30 [.ref 16, .int a0, .int a1, .int a2, .ref l34, .ref l49] [.int 0] _ _
              refine pm_R_br pm_M94 (pc' := 33) (st' := []) rfl rfl ?_
              refine pm_R_op pm_M94 (pc' := 34) (st' := [.int (-1)]) rfl rfl rfl ?_
              exact pm_R_ret pm_M94 (r := some (.int (-1))) rfl rfl (K (-1) m o h T (cl_F.refl (ck := ck) (A := [33, 34, 36]) (n := 0) (s := 0) T.1) (rf_W.refl [] m))
            · have B65 : sf_B 0 11 a2 := sf_ltL (Int32.not_le.mp c63) B62 (sf_ofB1 h55 h54 (by decide))
              refine pm_R_op pm_M67 (pc' := 13) (st' := [.int 1]) rfl rfl rfl ?_
              refine pm_R_br pm_M67 (pc' := 17) rfl rfl ?_
              refine pm_R_ret pm_M67 (r := some (.int 1)) rfl rfl ?_
              show pm_R _ 94 30 [.ref 16, .int a0, .int a1, .int a2, .ref l34, .ref l49] [.int 1] _ _
              refine pm_R_br pm_M94 (pc' := 35) (st' := []) rfl rfl ?_
              refine pm_R_lo pm_M94 (pc' := 36) rfl rfl rfl ?_
              refine pm_R_get pm_M94 (pc' := 39) (v := .ref 33) rfl rfl T.e16 (by decide) (T.lt (by decide)) rfl rfl ?_
              refine pm_R_lo pm_M94 (pc' := 41) rfl rfl rfl ?_
              refine pm_R_lo pm_M94 (pc' := 43) rfl rfl rfl ?_
              refine pm_R_cv pm_M94 (pc' := 46) (a := 33) (ra := [.ref l49, .ref l34]) (rest := []) (ls' := [.ref 33, .ref l34, .ref l49, pm_no, pm_no]) rfl rfl (Or.inl rfl) pm_M70 T.e33 rfl (by decide) (T.lt (by decide)) rfl rfl (Nat.le_of_ble_eq_true rfl) rfl rfl ?_
              refine cl_c70 (d := d + 0) G T hk36 hk51 (fun m68 o73 h69 T70 F71 W72 X74 X75 => ?_)
              have F76 := (cl_F.refl (ck := ck) (A := [33, 34, 36]) (n := 0) (s := 0) T.1).trans (N := 0) (S := 0) F71 (by decide) (by decide) (by decide)
              have W77 : rf_W [] m m68 := (rf_W.refl [] m).trans W72 (by decide)
              show pm_R _ 94 46 [.ref 16, .int a0, .int a1, .int a2, .ref l34, .ref l49] [] _ _
              refine pm_R_lo pm_M94 (pc' := 47) rfl rfl rfl ?_
              refine pm_R_get pm_M94 (pc' := 50) (v := .ref 33) rfl rfl T70.e16 (by decide) (T70.lt (by decide)) rfl rfl ?_
              refine pm_R_lo pm_M94 (pc' := 51) rfl rfl rfl ?_
              refine pm_R_cv pm_M94 (pc' := 54) (a := 33) (ra := [.int a2]) (rest := []) (ls' := [.ref 33, .int a2, pm_no, pm_no]) rfl rfl (Or.inl rfl) pm_M95 T70.e33 rfl (by decide) (T70.lt (by decide)) rfl rfl (Nat.le_of_ble_eq_true rfl) rfl rfl ?_
              refine cl_c95 (d := d + 0) G T70 B65 X74 X75 eE56 (Int32.not_le.mp c63) (fun r78 m80 h81 T82 F83 W84 => ?_)
              have F85 := F76.trans (N := 0) (S := 0) F83 (by decide) (by decide) (by decide)
              have W86 : rf_W [] m m80 := W77.trans W84 (by decide)
              show pm_R _ 94 54 [.ref 16, .int a0, .int a1, .int a2, .ref l34, .ref l49] [.int r78] _ _
              exact pm_R_ret pm_M94 (r := some (.int r78)) rfl (pm_ret_i _) (K r78 m80 o73 h81 T82 F85 W86)
        · skip
          refine pm_R_op pm_M66 (pc' := 18) (st' := [.null]) rfl rfl rfl ?_
          refine pm_R_br pm_M66 (pc' := 30) rfl rfl ?_
          refine pm_R_ret pm_M66 (r := some (.null)) rfl rfl ?_
          show pm_R _ 94 12 [.ref 16, .int a0, .int a1, .int a2, .ref l34, pm_no] [.null] _ _
          refine pm_R_lo pm_M94 (pc' := 14) (ls' := [.ref 16, .int a0, .int a1, .int a2, .ref l34, .null]) (st' := []) rfl rfl rfl ?_
          refine pm_R_lo pm_M94 (pc' := 16) rfl rfl rfl ?_
          refine pm_R_br pm_M94 (pc' := 19) rfl rfl ?_
          refine pm_R_lo pm_M94 (pc' := 21) rfl rfl rfl ?_
          refine pm_R_br pm_M94 (pc' := 33) rfl rfl ?_
          refine pm_R_op pm_M94 (pc' := 34) (st' := [.int (-1)]) rfl rfl rfl ?_
          exact pm_R_ret pm_M94 (r := some (.int (-1))) rfl rfl (K (-1) m o h T (cl_F.refl (ck := ck) (A := [33, 34, 36]) (n := 0) (s := 0) T.1) (rf_W.refl [] m))
    · skip
      refine pm_R_op pm_M62 (pc' := 18) (st' := [.null]) rfl rfl rfl ?_
      refine pm_R_br pm_M62 (pc' := 30) rfl rfl ?_
      refine pm_R_ret pm_M62 (r := some (.null)) rfl rfl ?_
      show pm_R _ 94 5 [.ref 16, .int a0, .int a1, .int a2, pm_no, pm_no] [.null] _ _
      refine pm_R_lo pm_M94 (pc' := 7) (ls' := [.ref 16, .int a0, .int a1, .int a2, .null, pm_no]) (st' := []) rfl rfl rfl ?_
      refine pm_R_lo pm_M94 (pc' := 8) rfl rfl rfl ?_
      refine pm_R_lo pm_M94 (pc' := 9) rfl rfl rfl ?_
      refine pm_R_cv pm_M94 (pc' := 12) (a := 16) (ra := [.int a1]) (rest := []) (ls' := [.ref 16, .int a1]) rfl rfl (Or.inl rfl) pm_M66 T.e16 rfl (by decide) (T.lt (by decide)) rfl rfl (Nat.le_of_ble_eq_true rfl) rfl rfl ?_
      refine pm_R_lo pm_M66 (pc' := 1) rfl rfl rfl ?_
      refine pm_R_ifc pm_M66 (t := 17) (pc' := 4) rfl rfl rfl (fun c87 => ?_) (fun c87 => ?_)
      · have B88 : sf_B (-2147483648) (-1) a1 := sf_ltL c87 (sf_any a1) sf_k0
        refine pm_R_op pm_M66 (pc' := 18) (st' := [.null]) rfl rfl rfl ?_
        refine pm_R_br pm_M66 (pc' := 30) rfl rfl ?_
        refine pm_R_ret pm_M66 (r := some (.null)) rfl rfl ?_
        show pm_R _ 94 12 [.ref 16, .int a0, .int a1, .int a2, .null, pm_no] [.null] _ _
        refine pm_R_lo pm_M94 (pc' := 14) (ls' := [.ref 16, .int a0, .int a1, .int a2, .null, .null]) (st' := []) rfl rfl rfl ?_
        refine pm_R_lo pm_M94 (pc' := 16) rfl rfl rfl ?_
        refine pm_R_br pm_M94 (pc' := 33) rfl rfl ?_
        refine pm_R_op pm_M94 (pc' := 34) (st' := [.int (-1)]) rfl rfl rfl ?_
        exact pm_R_ret pm_M94 (r := some (.int (-1))) rfl rfl (K (-1) m o h T (cl_F.refl (ck := ck) (A := [33, 34, 36]) (n := 0) (s := 0) T.1) (rf_W.refl [] m))
      · have B89 : sf_B 0 2147483647 a1 := sf_leR (Int32.not_lt.mp c87) sf_k0 (sf_any a1)
        refine pm_R_lo pm_M66 (pc' := 5) rfl rfl rfl ?_
        refine pm_R_lo pm_M66 (pc' := 6) rfl rfl rfl ?_
        refine pm_R_get pm_M66 (pc' := 9) (v := .ref 17) rfl rfl T.e16 (by decide) (T.lt (by decide)) rfl rfl ?_
        refine pm_R_get pm_M66 (pc' := 12) (v := .ref 23) rfl rfl T.e17 (by decide) (T.lt (by decide)) rfl rfl ?_
        refine pm_R_op pm_M66 (pc' := 13) (st' := [.int 1, .ref 23, .int a1]) rfl rfl rfl ?_
        obtain ⟨z90, ez91⟩ : ∃ y, f25 (Int32.toNatClampNeg 1) = y := ⟨_, rfl⟩
        have B92 : sf_B 0 3 z90 := ez91 ▸ (b27 1)
        refine pm_R_iald pm_M66 (pc' := 14) (v := z90) rfl e26 (T.lt (by decide)) rfl ez91 rfl ?_
        refine pm_R_icmp pm_M66 (t := 21) (pc' := 17) rfl rfl rfl (fun c93 => ?_) (fun c93 => ?_)
        · have B94 : sf_B 0 2 a1 := sf_ltL c93 B89 B92
          have B95 : sf_B 1 3 z90 := sf_ltR c93 B89 B92
          refine pm_R_lo pm_M66 (pc' := 22) rfl rfl rfl ?_
          refine pm_R_get pm_M66 (pc' := 25) (v := .ref 17) rfl rfl T.e16 (by decide) (T.lt (by decide)) rfl rfl ?_
          refine pm_R_get pm_M66 (pc' := 28) (v := .ref 20) rfl rfl T.e17 (by decide) (T.lt (by decide)) rfl rfl ?_
          refine pm_R_lo pm_M66 (pc' := 29) rfl rfl rfl ?_
          obtain ⟨f96, e97, b98⟩ := T.C 20 (by decide) (by decide)
          obtain ⟨l99, hx100⟩ := cl_there1 T e26 e97 ez91 c93 B94 (by decide)
          have hk101 := b98 _ _ hx100
          refine pm_R_aald pm_M66 (pc' := 30) (v := .ref l99) rfl e97 (by decide) (by decide) (by decide) (T.lt (by decide)) (sf_in B94 (by decide) (by decide)) (by rw [hx100]; rfl) rfl ?_
          refine pm_R_ret pm_M66 (r := some (.ref l99)) rfl rfl ?_
          show pm_R _ 94 12 [.ref 16, .int a0, .int a1, .int a2, .null, pm_no] [.ref l99] _ _
          refine pm_R_lo pm_M94 (pc' := 14) (ls' := [.ref 16, .int a0, .int a1, .int a2, .null, .ref l99]) (st' := []) rfl rfl rfl ?_
          refine pm_R_lo pm_M94 (pc' := 16) rfl rfl rfl ?_
          refine pm_R_br pm_M94 (pc' := 33) rfl rfl ?_
          refine pm_R_op pm_M94 (pc' := 34) (st' := [.int (-1)]) rfl rfl rfl ?_
          exact pm_R_ret pm_M94 (r := some (.int (-1))) rfl rfl (K (-1) m o h T (cl_F.refl (ck := ck) (A := [33, 34, 36]) (n := 0) (s := 0) T.1) (rf_W.refl [] m))
        · skip
          refine pm_R_op pm_M66 (pc' := 18) (st' := [.null]) rfl rfl rfl ?_
          refine pm_R_br pm_M66 (pc' := 30) rfl rfl ?_
          refine pm_R_ret pm_M66 (r := some (.null)) rfl rfl ?_
          show pm_R _ 94 12 [.ref 16, .int a0, .int a1, .int a2, .null, pm_no] [.null] _ _
          refine pm_R_lo pm_M94 (pc' := 14) (ls' := [.ref 16, .int a0, .int a1, .int a2, .null, .null]) (st' := []) rfl rfl rfl ?_
          refine pm_R_lo pm_M94 (pc' := 16) rfl rfl rfl ?_
          refine pm_R_br pm_M94 (pc' := 33) rfl rfl ?_
          refine pm_R_op pm_M94 (pc' := 34) (st' := [.int (-1)]) rfl rfl rfl ?_
          exact pm_R_ret pm_M94 (r := some (.int (-1))) rfl rfl (K (-1) m o h T (cl_F.refl (ck := ck) (A := [33, 34, 36]) (n := 0) (s := 0) T.1) (rf_W.refl [] m))
