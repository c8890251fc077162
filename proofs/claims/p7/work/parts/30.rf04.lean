set_option maxRecDepth 100000 in
set_option maxHeartbeats 4000000 in
/-- SilentTableModel.reading -/
theorem rf_c197 {d : Nat} {m : Nat → Int32} {w : Int64} {h : pm_H} {Q : Option Value → pm_H → Prop} {a0 : Int32} {a1 : Int32} {a2 : Int32} (T : rf_T m w h)  (K : ∀ (r : Int32) (m_q : Nat → Int32) (w_q : Int64) (h_q : pm_H), rf_T m_q w_q h_q → rf_G [41] h h_q → rf_W [0] m m_q → Q (some (.int r)) h_q) : pm_R (d + 2) 197 0 [.ref 41, .int a0, .int a1, .int a2] [] h Q := by
  refine pm_R_lo pm_M197 (pc_q := 1) rfl rfl rfl ?_
  refine pm_R_op pm_M197 (pc_q := 2) (st_q := [.int 0, .ref 41]) rfl rfl rfl ?_
  refine rf_R_put pm_M197 T (pc_q := 5) rfl rfl rfl (by decide) rfl rfl sf_k0 rfl rfl (fun h1 m4 em5 T2 F3 => ?_)
  have F6 := (rf_G.refl [41] h).trans F3 (by decide)
  have B7 : sf_B 0 0 (m4 0) := by rw [em5]; exact sf_k0
  have W9 : rf_W [0] m m4 := by rw [em5]; exact (rf_W.refl [0] m).put (by decide)
  refine pm_R_lo pm_M197 (pc_q := 6) rfl rfl rfl ?_
  refine pm_R_op pm_M197 (pc_q := 7) (st_q := [.int 0, .ref 41]) rfl rfl rfl ?_
  refine pm_R_lo pm_M197 (pc_q := 8) rfl rfl rfl ?_
  refine pm_R_cv pm_M197 (pc_q := 11) (a := 41) (ra := [.int a0, .int 0]) (rest := []) (ls_q := [.ref 41, .int 0, .int a0]) rfl rfl (Or.inl rfl) pm_M177 T2.2.1 rfl (by decide) (Nat.lt_of_lt_of_le (by decide) T2.1) rfl rfl (Nat.le_of_ble_eq_true rfl) rfl rfl ?_
  refine pm_R_lo pm_M177 (pc_q := 1) rfl rfl rfl ?_
  refine pm_R_op pm_M177 (pc_q := 2) (st_q := [.int 0, .int a0]) rfl rfl rfl ?_
  refine pm_R_lo pm_M177 (pc_q := 3) rfl rfl rfl ?_
  refine rf_R_get pm_M177 T2 (pc_q := 6) (v := .ref 46) rfl rfl rfl rfl ?_
  refine pm_R_lo pm_M177 (pc_q := 7) rfl rfl rfl ?_
  obtain ⟨f10, e11, b12⟩ := T2.2.2.2.1 46 (by decide) (by decide)
  refine rf_R_ild pm_M177 T2 (pc_q := 8) rfl e11 (by decide) rfl rfl (fun z13 ez14 => ?_)
  have B15 : sf_B 0 2 z13 := ez14 ▸ (b12 0)
  refine pm_R_op pm_M177 (pc_q := 9) (st_q := [.int 1, .int z13, .int 0, .int a0]) rfl rfl rfl ?_
  refine sf_R_isub pm_M177 (pc_q := 10) rfl rfl B15 sf_k1 (by decide) (by decide) (fun z16 e17 B18 => ?_)
  refine pm_R_cs pm_M177 (pc_q := 13) (ra := [.int z16, .int 0, .int a0]) (rest := []) (ls_q := [.int a0, .int 0, .int z16]) rfl rfl (Or.inl rfl) pm_M174 rfl rfl (Nat.le_of_ble_eq_true rfl) rfl rfl ?_
  refine pm_R_lo pm_M174 (pc_q := 1) rfl rfl rfl ?_
  refine pm_R_lo pm_M174 (pc_q := 2) rfl rfl rfl ?_
  refine pm_R_icmp pm_M174 (t := 14) (pc_q := 5) rfl rfl rfl (fun c19 => ?_) (fun c19 => ?_)
  · have B20 : sf_B (-2147483648) (-1) a0 := sf_ltL c19 (sf_any a0) sf_k0
    refine pm_R_op pm_M174 (pc_q := 15) (st_q := [.int 0]) rfl rfl rfl ?_
    refine pm_R_ret pm_M174 (r := some (.int 0)) rfl rfl ?_
    show pm_R _ 177 13 [.ref 41, .int 0, .int a0] [.int 0] _ _
    refine pm_R_ret pm_M177 (r := some (.int 0)) rfl rfl ?_
    show pm_R _ 197 11 [.ref 41, .int a0, .int a1, .int a2] [.int 0] _ _
    refine pm_R_br pm_M197 (pc_q := 65) (st_q := []) rfl rfl ?_
    refine pm_R_op pm_M197 (pc_q := 66) (st_q := [.int (-1)]) rfl rfl rfl ?_
    exact pm_R_ret pm_M197 (r := some (.int (-1))) rfl rfl (K (-1) m4 w h1 T2 F6 W9)
  · have B21 : sf_B 0 2147483647 a0 := sf_leR (Int32.not_lt.mp c19) sf_k0 (sf_any a0)
    refine pm_R_lo pm_M174 (pc_q := 6) rfl rfl rfl ?_
    refine pm_R_lo pm_M174 (pc_q := 7) rfl rfl rfl ?_
    refine pm_R_icmp pm_M174 (t := 14) (pc_q := 10) rfl rfl rfl (fun c22 => ?_) (fun c22 => ?_)
    · skip
      refine pm_R_op pm_M174 (pc_q := 15) (st_q := [.int 0]) rfl rfl rfl ?_
      refine pm_R_ret pm_M174 (r := some (.int 0)) rfl rfl ?_
      show pm_R _ 177 13 [.ref 41, .int 0, .int a0] [.int 0] _ _
      refine pm_R_ret pm_M177 (r := some (.int 0)) rfl rfl ?_
      show pm_R _ 197 11 [.ref 41, .int a0, .int a1, .int a2] [.int 0] _ _
      refine pm_R_br pm_M197 (pc_q := 65) (st_q := []) rfl rfl ?_
      refine pm_R_op pm_M197 (pc_q := 66) (st_q := [.int (-1)]) rfl rfl rfl ?_
      exact pm_R_ret pm_M197 (r := some (.int (-1))) rfl rfl (K (-1) m4 w h1 T2 F6 W9)
    · have B23 : sf_B 0 1 a0 := sf_leL (Int32.not_lt.mp c22) B21 B18
      have B24 : sf_B 0 1 z16 := sf_leR (Int32.not_lt.mp c22) B21 B18
      refine pm_R_op pm_M174 (pc_q := 11) (st_q := [.int 1]) rfl rfl rfl ?_
      refine pm_R_br pm_M174 (pc_q := 15) rfl rfl ?_
      refine pm_R_ret pm_M174 (r := some (.int 1)) rfl rfl ?_
      show pm_R _ 177 13 [.ref 41, .int 0, .int a0] [.int 1] _ _
      refine pm_R_ret pm_M177 (r := some (.int 1)) rfl rfl ?_
      show pm_R _ 197 11 [.ref 41, .int a0, .int a1, .int a2] [.int 1] _ _
      refine pm_R_br pm_M197 (pc_q := 14) (st_q := []) rfl rfl ?_
      refine pm_R_lo pm_M197 (pc_q := 15) rfl rfl rfl ?_
      refine pm_R_op pm_M197 (pc_q := 16) (st_q := [.int 0, .int a1]) rfl rfl rfl ?_
      refine pm_R_lo pm_M197 (pc_q := 17) rfl rfl rfl ?_
      refine rf_R_get pm_M197 T2 (pc_q := 20) (v := .ref 47) rfl rfl rfl rfl ?_
      refine pm_R_op pm_M197 (pc_q := 22) (st_q := [.int 100, .ref 47, .int 0, .int a1]) rfl rfl rfl ?_
      refine pm_R_lo pm_M197 (pc_q := 23) rfl rfl rfl ?_
      refine sf_R_imul pm_M197 (pc_q := 24) rfl rfl sf_k100 B23 (by decide) (by decide) (by decide) (fun z25 e26 B27 => ?_)
      refine pm_R_op pm_M197 (pc_q := 25) (st_q := [.int 1, .int z25, .ref 47, .int 0, .int a1]) rfl rfl rfl ?_
      refine sf_R_iadd pm_M197 (pc_q := 26) rfl rfl B27 sf_k1 (by decide) (by decide) (fun z28 e29 B30 => ?_)
      obtain ⟨f31, e32, b33⟩ := T2.2.2.2.1 47 (by decide) (by decide)
      refine rf_R_ild pm_M197 T2 (pc_q := 27) rfl e32 (by decide) (sf_in B30 (by decide) (by decide)) rfl (fun z34 ez35 => ?_)
      have e36 : (z28).toInt = 100 * (a0).toInt + 1 := (sf_aux7 _ _ _ e26 e29)
      have B37 : sf_B 0 16 z34 := ez35 ▸ rf_p47b b33 e36 B23 (by decide)
      refine pm_R_op pm_M197 (pc_q := 28) (st_q := [.int 1, .int z34, .int 0, .int a1]) rfl rfl rfl ?_
      refine sf_R_isub pm_M197 (pc_q := 29) rfl rfl B37 sf_k1 (by decide) (by decide) (fun z38 e39 B40 => ?_)
      refine pm_R_cs pm_M197 (pc_q := 32) (ra := [.int z38, .int 0, .int a1]) (rest := []) (ls_q := [.int a1, .int 0, .int z38]) rfl rfl (Or.inl rfl) pm_M174 rfl rfl (Nat.le_of_ble_eq_true rfl) rfl rfl ?_
      refine pm_R_lo pm_M174 (pc_q := 1) rfl rfl rfl ?_
      refine pm_R_lo pm_M174 (pc_q := 2) rfl rfl rfl ?_
      refine pm_R_icmp pm_M174 (t := 14) (pc_q := 5) rfl rfl rfl (fun c41 => ?_) (fun c41 => ?_)
      · have B42 : sf_B (-2147483648) (-1) a1 := sf_ltL c41 (sf_any a1) sf_k0
        refine pm_R_op pm_M174 (pc_q := 15) (st_q := [.int 0]) rfl rfl rfl ?_
        refine pm_R_ret pm_M174 (r := some (.int 0)) rfl rfl ?_
        show pm_R _ 197 32 [.ref 41, .int a0, .int a1, .int a2] [.int 0] _ _
        refine pm_R_br pm_M197 (pc_q := 65) (st_q := []) rfl rfl ?_
        refine pm_R_op pm_M197 (pc_q := 66) (st_q := [.int (-1)]) rfl rfl rfl ?_
        exact pm_R_ret pm_M197 (r := some (.int (-1))) rfl rfl (K (-1) m4 w h1 T2 F6 W9)
      · have B43 : sf_B 0 2147483647 a1 := sf_leR (Int32.not_lt.mp c41) sf_k0 (sf_any a1)
        refine pm_R_lo pm_M174 (pc_q := 6) rfl rfl rfl ?_
        refine pm_R_lo pm_M174 (pc_q := 7) rfl rfl rfl ?_
        refine pm_R_icmp pm_M174 (t := 14) (pc_q := 10) rfl rfl rfl (fun c44 => ?_) (fun c44 => ?_)
        · skip
          refine pm_R_op pm_M174 (pc_q := 15) (st_q := [.int 0]) rfl rfl rfl ?_
          refine pm_R_ret pm_M174 (r := some (.int 0)) rfl rfl ?_
          show pm_R _ 197 32 [.ref 41, .int a0, .int a1, .int a2] [.int 0] _ _
          refine pm_R_br pm_M197 (pc_q := 65) (st_q := []) rfl rfl ?_
          refine pm_R_op pm_M197 (pc_q := 66) (st_q := [.int (-1)]) rfl rfl rfl ?_
          exact pm_R_ret pm_M197 (r := some (.int (-1))) rfl rfl (K (-1) m4 w h1 T2 F6 W9)
        · have B45 : sf_B 0 15 a1 := sf_leL (Int32.not_lt.mp c44) B43 B40
          have B46 : sf_B 0 15 z38 := sf_leR (Int32.not_lt.mp c44) B43 B40
          refine pm_R_op pm_M174 (pc_q := 11) (st_q := [.int 1]) rfl rfl rfl ?_
          refine pm_R_br pm_M174 (pc_q := 15) rfl rfl ?_
          refine pm_R_ret pm_M174 (r := some (.int 1)) rfl rfl ?_
          show pm_R _ 197 32 [.ref 41, .int a0, .int a1, .int a2] [.int 1] _ _
          refine pm_R_br pm_M197 (pc_q := 35) (st_q := []) rfl rfl ?_
          refine pm_R_lo pm_M197 (pc_q := 36) rfl rfl rfl ?_
          refine pm_R_op pm_M197 (pc_q := 37) (st_q := [.int 0, .int a2]) rfl rfl rfl ?_
          refine pm_R_op pm_M197 (pc_q := 38) (st_q := [.int 2, .int 0, .int a2]) rfl rfl rfl ?_
          refine pm_R_cs pm_M197 (pc_q := 41) (ra := [.int 2, .int 0, .int a2]) (rest := []) (ls_q := [.int a2, .int 0, .int 2]) rfl rfl (Or.inl rfl) pm_M174 rfl rfl (Nat.le_of_ble_eq_true rfl) rfl rfl ?_
          refine pm_R_lo pm_M174 (pc_q := 1) rfl rfl rfl ?_
          refine pm_R_lo pm_M174 (pc_q := 2) rfl rfl rfl ?_
          refine pm_R_icmp pm_M174 (t := 14) (pc_q := 5) rfl rfl rfl (fun c47 => ?_) (fun c47 => ?_)
          · have B48 : sf_B (-2147483648) (-1) a2 := sf_ltL c47 (sf_any a2) sf_k0
            refine pm_R_op pm_M174 (pc_q := 15) (st_q := [.int 0]) rfl rfl rfl ?_
            refine pm_R_ret pm_M174 (r := some (.int 0)) rfl rfl ?_
            show pm_R _ 197 41 [.ref 41, .int a0, .int a1, .int a2] [.int 0] _ _
            refine pm_R_br pm_M197 (pc_q := 65) (st_q := []) rfl rfl ?_
            refine pm_R_op pm_M197 (pc_q := 66) (st_q := [.int (-1)]) rfl rfl rfl ?_
            exact pm_R_ret pm_M197 (r := some (.int (-1))) rfl rfl (K (-1) m4 w h1 T2 F6 W9)
          · have B49 : sf_B 0 2147483647 a2 := sf_leR (Int32.not_lt.mp c47) sf_k0 (sf_any a2)
            refine pm_R_lo pm_M174 (pc_q := 6) rfl rfl rfl ?_
            refine pm_R_lo pm_M174 (pc_q := 7) rfl rfl rfl ?_
            refine pm_R_icmp pm_M174 (t := 14) (pc_q := 10) rfl rfl rfl (fun c50 => ?_) (fun c50 => ?_)
            · have B51 : sf_B 3 2147483647 a2 := sf_ltR c50 sf_k2 B49
              refine pm_R_op pm_M174 (pc_q := 15) (st_q := [.int 0]) rfl rfl rfl ?_
              refine pm_R_ret pm_M174 (r := some (.int 0)) rfl rfl ?_
              show pm_R _ 197 41 [.ref 41, .int a0, .int a1, .int a2] [.int 0] _ _
              refine pm_R_br pm_M197 (pc_q := 65) (st_q := []) rfl rfl ?_
              refine pm_R_op pm_M197 (pc_q := 66) (st_q := [.int (-1)]) rfl rfl rfl ?_
              exact pm_R_ret pm_M197 (r := some (.int (-1))) rfl rfl (K (-1) m4 w h1 T2 F6 W9)
            · have B52 : sf_B 0 2 a2 := sf_leL (Int32.not_lt.mp c50) B49 sf_k2
              refine pm_R_op pm_M174 (pc_q := 11) (st_q := [.int 1]) rfl rfl rfl ?_
              refine pm_R_br pm_M174 (pc_q := 15) rfl rfl ?_
              refine pm_R_ret pm_M174 (r := some (.int 1)) rfl rfl ?_
              show pm_R _ 197 41 [.ref 41, .int a0, .int a1, .int a2] [.int 1] _ _
              refine pm_R_br pm_M197 (pc_q := 44) (st_q := []) rfl rfl ?_
              refine pm_R_lo pm_M197 (pc_q := 45) rfl rfl rfl ?_
              refine rf_R_get pm_M197 T2 (pc_q := 48) (v := .ref 47) rfl rfl rfl rfl ?_
              refine pm_R_op pm_M197 (pc_q := 50) (st_q := [.int 100, .ref 47]) rfl rfl rfl ?_
              refine pm_R_lo pm_M197 (pc_q := 51) rfl rfl rfl ?_
              refine sf_R_imulV pm_M197 (pc_q := 52) rfl rfl sf_k100 B23 (by decide) (by decide) (by decide) e26 ?_
              refine pm_R_op pm_M197 (pc_q := 54) (st_q := [.int 42, .int z25, .ref 47]) rfl rfl rfl ?_
              refine sf_R_iadd pm_M197 (pc_q := 55) rfl rfl B27 sf_k42 (by decide) (by decide) (fun z53 e54 B55 => ?_)
              refine pm_R_op pm_M197 (pc_q := 56) (st_q := [.int 3, .int z53, .ref 47]) rfl rfl rfl ?_
              refine pm_R_lo pm_M197 (pc_q := 57) rfl rfl rfl ?_
              refine sf_R_imul pm_M197 (pc_q := 58) rfl rfl sf_k3 B45 (by decide) (by decide) (by decide) (fun z56 e57 B58 => ?_)
              refine sf_R_iadd pm_M197 (pc_q := 59) rfl rfl B55 B58 (by decide) (by decide) (fun z59 e60 B61 => ?_)
              refine pm_R_lo pm_M197 (pc_q := 60) rfl rfl rfl ?_
              refine sf_R_iadd pm_M197 (pc_q := 61) rfl rfl B61 B52 (by decide) (by decide) (fun z62 e63 B64 => ?_)
              refine rf_R_ild pm_M197 T2 (pc_q := 62) rfl e32 (by decide) (sf_in B64 (by decide) (by decide)) rfl (fun z65 ez66 => ?_)
              refine pm_R_br pm_M197 (pc_q := 66) rfl rfl ?_
              exact pm_R_ret pm_M197 (r := some (.int z65)) rfl (pm_ret_i _) (K z65 m4 w h1 T2 F6 W9)

set_option maxRecDepth 100000 in
set_option maxHeartbeats 4000000 in
/-- SilentTableModel.row -/
theorem rf_c198 {d : Nat} {m : Nat → Int32} {w : Int64} {h : pm_H} {Q : Option Value → pm_H → Prop} {a0 : Int32} {a1 : Int32} (T : rf_T m w h)  (K : ∀ (r : Int32) (m_q : Nat → Int32) (w_q : Int64) (h_q : pm_H), rf_T m_q w_q h_q → rf_G [41] h h_q → rf_W [0] m m_q → sf_B (-2) 12 r → Q (some (.int r)) h_q) : pm_R (d + 2) 198 0 [.ref 41, .int a0, .int a1] [] h Q := by
  refine pm_R_lo pm_M198 (pc_q := 1) rfl rfl rfl ?_
  refine pm_R_op pm_M198 (pc_q := 2) (st_q := [.int 0, .ref 41]) rfl rfl rfl ?_
  refine rf_R_put pm_M198 T (pc_q := 5) rfl rfl rfl (by decide) rfl rfl sf_k0 rfl rfl (fun h1 m4 em5 T2 F3 => ?_)
  have F6 := (rf_G.refl [41] h).trans F3 (by decide)
  have B7 : sf_B 0 0 (m4 0) := by rw [em5]; exact sf_k0
  have W9 : rf_W [0] m m4 := by rw [em5]; exact (rf_W.refl [0] m).put (by decide)
  refine pm_R_lo pm_M198 (pc_q := 6) rfl rfl rfl ?_
  refine pm_R_op pm_M198 (pc_q := 7) (st_q := [.int 1, .ref 41]) rfl rfl rfl ?_
  refine pm_R_lo pm_M198 (pc_q := 8) rfl rfl rfl ?_
  refine pm_R_cv pm_M198 (pc_q := 11) (a := 41) (ra := [.int a0, .int 1]) (rest := []) (ls_q := [.ref 41, .int 1, .int a0]) rfl rfl (Or.inl rfl) pm_M177 T2.2.1 rfl (by decide) (Nat.lt_of_lt_of_le (by decide) T2.1) rfl rfl (Nat.le_of_ble_eq_true rfl) rfl rfl ?_
  refine pm_R_lo pm_M177 (pc_q := 1) rfl rfl rfl ?_
  refine pm_R_op pm_M177 (pc_q := 2) (st_q := [.int 0, .int a0]) rfl rfl rfl ?_
  refine pm_R_lo pm_M177 (pc_q := 3) rfl rfl rfl ?_
  refine rf_R_get pm_M177 T2 (pc_q := 6) (v := .ref 46) rfl rfl rfl rfl ?_
  refine pm_R_lo pm_M177 (pc_q := 7) rfl rfl rfl ?_
  obtain ⟨f10, e11, b12⟩ := T2.2.2.2.1 46 (by decide) (by decide)
  refine rf_R_ild pm_M177 T2 (pc_q := 8) rfl e11 (by decide) rfl rfl (fun z13 ez14 => ?_)
  have B15 : sf_B 0 3 z13 := ez14 ▸ (b12 1)
  refine pm_R_op pm_M177 (pc_q := 9) (st_q := [.int 1, .int z13, .int 0, .int a0]) rfl rfl rfl ?_
  refine sf_R_isub pm_M177 (pc_q := 10) rfl rfl B15 sf_k1 (by decide) (by decide) (fun z16 e17 B18 => ?_)
  refine pm_R_cs pm_M177 (pc_q := 13) (ra := [.int z16, .int 0, .int a0]) (rest := []) (ls_q := [.int a0, .int 0, .int z16]) rfl rfl (Or.inl rfl) pm_M174 rfl rfl (Nat.le_of_ble_eq_true rfl) rfl rfl ?_
  refine pm_R_lo pm_M174 (pc_q := 1) rfl rfl rfl ?_
  refine pm_R_lo pm_M174 (pc_q := 2) rfl rfl rfl ?_
  refine pm_R_icmp pm_M174 (t := 14) (pc_q := 5) rfl rfl rfl (fun c19 => ?_) (fun c19 => ?_)
  · have B20 : sf_B (-2147483648) (-1) a0 := sf_ltL c19 (sf_any a0) sf_k0
    refine pm_R_op pm_M174 (pc_q := 15) (st_q := [.int 0]) rfl rfl rfl ?_
    refine pm_R_ret pm_M174 (r := some (.int 0)) rfl rfl ?_
    show pm_R _ 177 13 [.ref 41, .int 1, .int a0] [.int 0] _ _
    refine pm_R_ret pm_M177 (r := some (.int 0)) rfl rfl ?_
    show pm_R _ 198 11 [.ref 41, .int a0, .int a1] [.int 0] _ _
    refine pm_R_br pm_M198 (pc_q := 14) (st_q := []) rfl rfl ?_
    refine pm_R_op pm_M198 (pc_q := 16) (st_q := [.int (-2)]) rfl rfl rfl ?_
    exact pm_R_ret pm_M198 (r := some (.int (-2))) rfl rfl (K (-2) m4 w h1 T2 F6 W9 (sf_weak sf_kn2 (by decide) (by decide)))
  · have B21 : sf_B 0 2147483647 a0 := sf_leR (Int32.not_lt.mp c19) sf_k0 (sf_any a0)
    refine pm_R_lo pm_M174 (pc_q := 6) rfl rfl rfl ?_
    refine pm_R_lo pm_M174 (pc_q := 7) rfl rfl rfl ?_
    refine pm_R_icmp pm_M174 (t := 14) (pc_q := 10) rfl rfl rfl (fun c22 => ?_) (fun c22 => ?_)
    · skip
      refine pm_R_op pm_M174 (pc_q := 15) (st_q := [.int 0]) rfl rfl rfl ?_
      refine pm_R_ret pm_M174 (r := some (.int 0)) rfl rfl ?_
      show pm_R _ 177 13 [.ref 41, .int 1, .int a0] [.int 0] _ _
      refine pm_R_ret pm_M177 (r := some (.int 0)) rfl rfl ?_
      show pm_R _ 198 11 [.ref 41, .int a0, .int a1] [.int 0] _ _
      refine pm_R_br pm_M198 (pc_q := 14) (st_q := []) rfl rfl ?_
      refine pm_R_op pm_M198 (pc_q := 16) (st_q := [.int (-2)]) rfl rfl rfl ?_
      exact pm_R_ret pm_M198 (r := some (.int (-2))) rfl rfl (K (-2) m4 w h1 T2 F6 W9 (sf_weak sf_kn2 (by decide) (by decide)))
    · have V23 := rf_V.mk e11 ez14 e17 (Int32.not_lt.mp c22) B21 (by decide)
      have V23 := V23.back F6 (by decide)
      have B24 : sf_B 0 2 a0 := sf_leL (Int32.not_lt.mp c22) B21 B18
      have B25 : sf_B 0 2 z16 := sf_leR (Int32.not_lt.mp c22) B21 B18
      refine pm_R_op pm_M174 (pc_q := 11) (st_q := [.int 1]) rfl rfl rfl ?_
      refine pm_R_br pm_M174 (pc_q := 15) rfl rfl ?_
      refine pm_R_ret pm_M174 (r := some (.int 1)) rfl rfl ?_
      show pm_R _ 177 13 [.ref 41, .int 1, .int a0] [.int 1] _ _
      refine pm_R_ret pm_M177 (r := some (.int 1)) rfl rfl ?_
      show pm_R _ 198 11 [.ref 41, .int a0, .int a1] [.int 1] _ _
      refine pm_R_br pm_M198 (pc_q := 17) (st_q := []) rfl rfl ?_
      refine pm_R_lo pm_M198 (pc_q := 18) rfl rfl rfl ?_
      refine pm_R_op pm_M198 (pc_q := 19) (st_q := [.int (-1), .int a1]) rfl rfl rfl ?_
      refine pm_R_icmp pm_M198 (t := 34) (pc_q := 22) rfl rfl rfl (fun c26 => ?_) (fun c26 => ?_)
      · skip
        refine pm_R_lo pm_M198 (pc_q := 35) rfl rfl rfl ?_
        refine pm_R_op pm_M198 (pc_q := 36) (st_q := [.int 0, .int a1]) rfl rfl rfl ?_
        refine pm_R_lo pm_M198 (pc_q := 37) rfl rfl rfl ?_
        refine rf_R_get pm_M198 T2 (pc_q := 40) (v := .ref 48) rfl rfl rfl rfl ?_
        refine pm_R_op pm_M198 (pc_q := 42) (st_q := [.int 13, .ref 48, .int 0, .int a1]) rfl rfl rfl ?_
        refine pm_R_lo pm_M198 (pc_q := 43) rfl rfl rfl ?_
        refine sf_R_imul pm_M198 (pc_q := 44) rfl rfl sf_k13 B24 (by decide) (by decide) (by decide) (fun z27 e28 B29 => ?_)
        obtain ⟨f30, e31, b32⟩ := T2.2.2.2.1 48 (by decide) (by decide)
        refine rf_R_ild pm_M198 T2 (pc_q := 45) rfl e31 (by decide) (sf_in B29 (by decide) (by decide)) rfl (fun z33 ez34 => ?_)
        have e35 : (z27).toInt = 13 * (a0).toInt + 0 := (sf_aux13 _ _ e28)
        have B36 : sf_B 1 12 z33 := ez34 ▸ rf_p48v T2 e31 (V23.F F6 (by decide)) e35
        refine pm_R_op pm_M198 (pc_q := 46) (st_q := [.int 1, .int z33, .int 0, .int a1]) rfl rfl rfl ?_
        refine sf_R_isub pm_M198 (pc_q := 47) rfl rfl B36 sf_k1 (by decide) (by decide) (fun z37 e38 B39 => ?_)
        refine pm_R_cs pm_M198 (pc_q := 50) (ra := [.int z37, .int 0, .int a1]) (rest := []) (ls_q := [.int a1, .int 0, .int z37]) rfl rfl (Or.inl rfl) pm_M174 rfl rfl (Nat.le_of_ble_eq_true rfl) rfl rfl ?_
        refine pm_R_lo pm_M174 (pc_q := 1) rfl rfl rfl ?_
        refine pm_R_lo pm_M174 (pc_q := 2) rfl rfl rfl ?_
        refine pm_R_icmp pm_M174 (t := 14) (pc_q := 5) rfl rfl rfl (fun c40 => ?_) (fun c40 => ?_)
        · have B41 : sf_B (-2147483648) (-1) a1 := sf_ltL c40 (sf_any a1) sf_k0
          refine pm_R_op pm_M174 (pc_q := 15) (st_q := [.int 0]) rfl rfl rfl ?_
          refine pm_R_ret pm_M174 (r := some (.int 0)) rfl rfl ?_
          show pm_R _ 198 50 [.ref 41, .int a0, .int a1] [.int 0] _ _
          refine pm_R_br pm_M198 (pc_q := 69) (st_q := []) rfl rfl ?_
          refine pm_R_op pm_M198 (pc_q := 71) (st_q := [.int (-2)]) rfl rfl rfl ?_
          exact pm_R_ret pm_M198 (r := some (.int (-2))) rfl rfl (K (-2) m4 w h1 T2 F6 W9 (sf_weak sf_kn2 (by decide) (by decide)))
        · have B42 : sf_B 0 2147483647 a1 := sf_leR (Int32.not_lt.mp c40) sf_k0 (sf_any a1)
          refine pm_R_lo pm_M174 (pc_q := 6) rfl rfl rfl ?_
          refine pm_R_lo pm_M174 (pc_q := 7) rfl rfl rfl ?_
          refine pm_R_icmp pm_M174 (t := 14) (pc_q := 10) rfl rfl rfl (fun c43 => ?_) (fun c43 => ?_)
          · have B44 : sf_B 1 2147483647 a1 := sf_ltR c43 B39 B42
            refine pm_R_op pm_M174 (pc_q := 15) (st_q := [.int 0]) rfl rfl rfl ?_
            refine pm_R_ret pm_M174 (r := some (.int 0)) rfl rfl ?_
            show pm_R _ 198 50 [.ref 41, .int a0, .int a1] [.int 0] _ _
            refine pm_R_br pm_M198 (pc_q := 69) (st_q := []) rfl rfl ?_
            refine pm_R_op pm_M198 (pc_q := 71) (st_q := [.int (-2)]) rfl rfl rfl ?_
            exact pm_R_ret pm_M198 (r := some (.int (-2))) rfl rfl (K (-2) m4 w h1 T2 F6 W9 (sf_weak sf_kn2 (by decide) (by decide)))
          · have B45 : sf_B 0 11 a1 := sf_leL (Int32.not_lt.mp c43) B42 B39
            refine pm_R_op pm_M174 (pc_q := 11) (st_q := [.int 1]) rfl rfl rfl ?_
            refine pm_R_br pm_M174 (pc_q := 15) rfl rfl ?_
            refine pm_R_ret pm_M174 (r := some (.int 1)) rfl rfl ?_
            show pm_R _ 198 50 [.ref 41, .int a0, .int a1] [.int 1] _ _
            refine pm_R_br pm_M198 (pc_q := 53) (st_q := []) rfl rfl ?_
            refine pm_R_lo pm_M198 (pc_q := 54) rfl rfl rfl ?_
            refine rf_R_get pm_M198 T2 (pc_q := 57) (v := .ref 48) rfl rfl rfl rfl ?_
            refine pm_R_op pm_M198 (pc_q := 59) (st_q := [.int 13, .ref 48]) rfl rfl rfl ?_
            refine pm_R_lo pm_M198 (pc_q := 60) rfl rfl rfl ?_
            refine sf_R_imulV pm_M198 (pc_q := 61) rfl rfl sf_k13 B24 (by decide) (by decide) (by decide) e28 ?_
            refine pm_R_op pm_M198 (pc_q := 62) (st_q := [.int 1, .int z27, .ref 48]) rfl rfl rfl ?_
            refine sf_R_iadd pm_M198 (pc_q := 63) rfl rfl B29 sf_k1 (by decide) (by decide) (fun z46 e47 B48 => ?_)
            refine pm_R_lo pm_M198 (pc_q := 64) rfl rfl rfl ?_
            refine sf_R_iadd pm_M198 (pc_q := 65) rfl rfl B48 B45 (by decide) (by decide) (fun z49 e50 B51 => ?_)
            refine rf_R_ild pm_M198 T2 (pc_q := 66) rfl e31 (by decide) (sf_in B51 (by decide) (by decide)) rfl (fun z52 ez53 => ?_)
            have e54 : (z49).toInt = 13 * (a0).toInt + 1 * (a1).toInt + 1 := (sf_aux14 _ _ _ _ _ e28 e47 e50)
            have B55 : sf_B 0 9 z52 := ez53 ▸ rf_p48s b32 e54 B24 B45 (by decide) (by decide) (by decide)
            refine pm_R_br pm_M198 (pc_q := 71) rfl rfl ?_
            exact pm_R_ret pm_M198 (r := some (.int z52)) rfl (pm_ret_i _) (K z52 m4 w h1 T2 F6 W9 (sf_weak B55 (by decide) (by decide)))
      · have B56 : sf_B (-1) (-1) a1 := sf_eqL (Classical.not_not.mp c26) sf_kn1
        refine pm_R_lo pm_M198 (pc_q := 23) rfl rfl rfl ?_
        refine rf_R_get pm_M198 T2 (pc_q := 26) (v := .ref 48) rfl rfl rfl rfl ?_
        refine pm_R_op pm_M198 (pc_q := 28) (st_q := [.int 13, .ref 48]) rfl rfl rfl ?_
        refine pm_R_lo pm_M198 (pc_q := 29) rfl rfl rfl ?_
        refine sf_R_imul pm_M198 (pc_q := 30) rfl rfl sf_k13 B24 (by decide) (by decide) (by decide) (fun z57 e58 B59 => ?_)
        obtain ⟨f60, e61, b62⟩ := T2.2.2.2.1 48 (by decide) (by decide)
        refine rf_R_ild pm_M198 T2 (pc_q := 31) rfl e61 (by decide) (sf_in B59 (by decide) (by decide)) rfl (fun z63 ez64 => ?_)
        have e65 : (z57).toInt = 13 * (a0).toInt + 0 := (sf_aux13 _ _ e58)
        have B66 : sf_B 1 12 z63 := ez64 ▸ rf_p48v T2 e61 (V23.F F6 (by decide)) e65
        refine pm_R_br pm_M198 (pc_q := 71) rfl rfl ?_
        exact pm_R_ret pm_M198 (r := some (.int z63)) rfl (pm_ret_i _) (K z63 m4 w h1 T2 F6 W9 (sf_weak B66 (by decide) (by decide)))

set_option maxRecDepth 100000 in
set_option maxHeartbeats 4000000 in
/-- SilentTableModel.count -/
theorem rf_c294 {d : Nat} {m : Nat → Int32} {w : Int64} {h : pm_H} {Q : Option Value → pm_H → Prop} {a0 : Int32} (T : rf_T m w h)  (K : ∀ (r : Int32) (m_q : Nat → Int32) (w_q : Int64) (h_q : pm_H), rf_T m_q w_q h_q → rf_G [41] h h_q → rf_W [0] m m_q → Q (some (.int r)) h_q) : pm_R (d + 1) 294 0 [.ref 41, .int a0] [] h Q := by
  refine pm_R_lo pm_M294 (pc_q := 1) rfl rfl rfl ?_
  refine pm_R_op pm_M294 (pc_q := 2) (st_q := [.int 0, .ref 41]) rfl rfl rfl ?_
  refine rf_R_put pm_M294 T (pc_q := 5) rfl rfl rfl (by decide) rfl rfl sf_k0 rfl rfl (fun h1 m4 em5 T2 F3 => ?_)
  have F6 := (rf_G.refl [41] h).trans F3 (by decide)
  have B7 : sf_B 0 0 (m4 0) := by rw [em5]; exact sf_k0
  have W9 : rf_W [0] m m4 := by rw [em5]; exact (rf_W.refl [0] m).put (by decide)
  refine pm_R_lo pm_M294 (pc_q := 6) rfl rfl rfl ?_
  refine pm_R_op pm_M294 (pc_q := 7) (st_q := [.int 0, .int a0]) rfl rfl rfl ?_
  refine pm_R_op pm_M294 (pc_q := 8) (st_q := [.int 3, .int 0, .int a0]) rfl rfl rfl ?_
  refine pm_R_cs pm_M294 (pc_q := 11) (ra := [.int 3, .int 0, .int a0]) (rest := []) (ls_q := [.int a0, .int 0, .int 3]) rfl rfl (Or.inl rfl) pm_M174 rfl rfl (Nat.le_of_ble_eq_true rfl) rfl rfl ?_
  refine pm_R_lo pm_M174 (pc_q := 1) rfl rfl rfl ?_
  refine pm_R_lo pm_M174 (pc_q := 2) rfl rfl rfl ?_
  refine pm_R_icmp pm_M174 (t := 14) (pc_q := 5) rfl rfl rfl (fun c10 => ?_) (fun c10 => ?_)
  · have B11 : sf_B (-2147483648) (-1) a0 := sf_ltL c10 (sf_any a0) sf_k0
    refine pm_R_op pm_M174 (pc_q := 15) (st_q := [.int 0]) rfl rfl rfl ?_
    refine pm_R_ret pm_M174 (r := some (.int 0)) rfl rfl ?_
    show pm_R _ 294 11 [.ref 41, .int a0] [.int 0] _ _
    refine pm_R_br pm_M294 (pc_q := 23) (st_q := []) rfl rfl ?_
    refine pm_R_op pm_M294 (pc_q := 25) (st_q := [.int (-2)]) rfl rfl rfl ?_
    exact pm_R_ret pm_M294 (r := some (.int (-2))) rfl rfl (K (-2) m4 w h1 T2 F6 W9)
  · have B12 : sf_B 0 2147483647 a0 := sf_leR (Int32.not_lt.mp c10) sf_k0 (sf_any a0)
    refine pm_R_lo pm_M174 (pc_q := 6) rfl rfl rfl ?_
    refine pm_R_lo pm_M174 (pc_q := 7) rfl rfl rfl ?_
    refine pm_R_icmp pm_M174 (t := 14) (pc_q := 10) rfl rfl rfl (fun c13 => ?_) (fun c13 => ?_)
    · have B14 : sf_B 4 2147483647 a0 := sf_ltR c13 sf_k3 B12
      refine pm_R_op pm_M174 (pc_q := 15) (st_q := [.int 0]) rfl rfl rfl ?_
      refine pm_R_ret pm_M174 (r := some (.int 0)) rfl rfl ?_
      show pm_R _ 294 11 [.ref 41, .int a0] [.int 0] _ _
      refine pm_R_br pm_M294 (pc_q := 23) (st_q := []) rfl rfl ?_
      refine pm_R_op pm_M294 (pc_q := 25) (st_q := [.int (-2)]) rfl rfl rfl ?_
      exact pm_R_ret pm_M294 (r := some (.int (-2))) rfl rfl (K (-2) m4 w h1 T2 F6 W9)
    · have B15 : sf_B 0 3 a0 := sf_leL (Int32.not_lt.mp c13) B12 sf_k3
      refine pm_R_op pm_M174 (pc_q := 11) (st_q := [.int 1]) rfl rfl rfl ?_
      refine pm_R_br pm_M174 (pc_q := 15) rfl rfl ?_
      refine pm_R_ret pm_M174 (r := some (.int 1)) rfl rfl ?_
      show pm_R _ 294 11 [.ref 41, .int a0] [.int 1] _ _
      refine pm_R_br pm_M294 (pc_q := 14) (st_q := []) rfl rfl ?_
      refine pm_R_lo pm_M294 (pc_q := 15) rfl rfl rfl ?_
      refine rf_R_get pm_M294 T2 (pc_q := 18) (v := .ref 46) rfl rfl rfl rfl ?_
      refine pm_R_lo pm_M294 (pc_q := 19) rfl rfl rfl ?_
      obtain ⟨f16, e17, b18⟩ := T2.2.2.2.1 46 (by decide) (by decide)
      refine rf_R_ild pm_M294 T2 (pc_q := 20) rfl e17 (by decide) (sf_in B15 (by decide) (by decide)) rfl (fun z19 ez20 => ?_)
      refine pm_R_br pm_M294 (pc_q := 25) rfl rfl ?_
      exact pm_R_ret pm_M294 (r := some (.int z19)) rfl (pm_ret_i _) (K z19 m4 w h1 T2 F6 W9)

set_option maxRecDepth 100000 in
set_option maxHeartbeats 4000000 in
/-- SilentTableModel.trees -/
theorem rf_c199 {d : Nat} {m : Nat → Int32} {w : Int64} {h : pm_H} {Q : Option Value → pm_H → Prop} {a0 : Int32} {a1 : Int32} {a2 : Int32} {a3 : Int32} {a4 : Int32} (T : rf_T m w h)  (K : ∀ (r : Int64) (m_q : Nat → Int32) (w_q : Int64) (h_q : pm_H), rf_T m_q w_q h_q → rf_G [41, 53, 55] h h_q → rf_W [0, 23, 24, 26] m m_q → lf_B (-1) 1000000000000 r → Q (some (.long r)) h_q) : pm_R (d + 5) 199 0 [.ref 41, .int a0, .int a1, .int a2, .int a3, .int a4] [] h Q := by
  refine pm_R_lo pm_M199 (pc_q := 1) rfl rfl rfl ?_
  refine pm_R_op pm_M199 (pc_q := 2) (st_q := [.int 0, .ref 41]) rfl rfl rfl ?_
  refine rf_R_put pm_M199 T (pc_q := 5) rfl rfl rfl (by decide) rfl rfl sf_k0 rfl rfl (fun h1 m4 em5 T2 F3 => ?_)
  have F6 := (rf_G.refl [41, 53, 55] h).trans F3 (by decide)
  have B7 : sf_B 0 0 (m4 0) := by rw [em5]; exact sf_k0
  have W9 : rf_W [0, 23, 24, 26] m m4 := by rw [em5]; exact (rf_W.refl [0, 23, 24, 26] m).put (by decide)
  refine pm_R_lo pm_M199 (pc_q := 6) rfl rfl rfl ?_
  refine pm_R_lo pm_M199 (pc_q := 7) rfl rfl rfl ?_
  refine pm_R_lo pm_M199 (pc_q := 8) rfl rfl rfl ?_
  refine pm_R_cv pm_M199 (pc_q := 11) (a := 41) (ra := [.int a1, .int a0]) (rest := []) (ls_q := [.ref 41, .int a0, .int a1]) rfl rfl (Or.inl rfl) pm_M200 T2.2.1 rfl (by decide) (Nat.lt_of_lt_of_le (by decide) T2.1) rfl rfl (Nat.le_of_ble_eq_true rfl) rfl rfl ?_
  refine pm_R_lo pm_M200 (pc_q := 1) rfl rfl rfl ?_
  refine pm_R_op pm_M200 (pc_q := 2) (st_q := [.int 0, .ref 41]) rfl rfl rfl ?_
  refine pm_R_lo pm_M200 (pc_q := 3) rfl rfl rfl ?_
  refine pm_R_cv pm_M200 (pc_q := 6) (a := 41) (ra := [.int a0, .int 0]) (rest := []) (ls_q := [.ref 41, .int 0, .int a0]) rfl rfl (Or.inl rfl) pm_M177 T2.2.1 rfl (by decide) (Nat.lt_of_lt_of_le (by decide) T2.1) rfl rfl (Nat.le_of_ble_eq_true rfl) rfl rfl ?_
  refine pm_R_lo pm_M177 (pc_q := 1) rfl rfl rfl ?_
  refine pm_R_op pm_M177 (pc_q := 2) (st_q := [.int 0, .int a0]) rfl rfl rfl ?_
  refine pm_R_lo pm_M177 (pc_q := 3) rfl rfl rfl ?_
  refine rf_R_get pm_M177 T2 (pc_q := 6) (v := .ref 46) rfl rfl rfl rfl ?_
  refine pm_R_lo pm_M177 (pc_q := 7) rfl rfl rfl ?_
  obtain ⟨f10, e11, b12⟩ := T2.2.2.2.1 46 (by decide) (by decide)
  refine rf_R_ild pm_M177 T2 (pc_q := 8) rfl e11 (by decide) rfl rfl (fun z13 ez14 => ?_)
  have B15 : sf_B 0 2 z13 := ez14 ▸ (b12 0)
  refine pm_R_op pm_M177 (pc_q := 9) (st_q := [.int 1, .int z13, .int 0, .int a0]) rfl rfl rfl ?_
  refine sf_R_isub pm_M177 (pc_q := 10) rfl rfl B15 sf_k1 (by decide) (by decide) (fun z16 e17 B18 => ?_)
  refine pm_R_cs pm_M177 (pc_q := 13) (ra := [.int z16, .int 0, .int a0]) (rest := []) (ls_q := [.int a0, .int 0, .int z16]) rfl rfl (Or.inl rfl) pm_M174 rfl rfl (Nat.le_of_ble_eq_true rfl) rfl rfl ?_
  refine pm_R_lo pm_M174 (pc_q := 1) rfl rfl rfl ?_
  refine pm_R_lo pm_M174 (pc_q := 2) rfl rfl rfl ?_
  refine pm_R_icmp pm_M174 (t := 14) (pc_q := 5) rfl rfl rfl (fun c19 => ?_) (fun c19 => ?_)
  · have B20 : sf_B (-2147483648) (-1) a0 := sf_ltL c19 (sf_any a0) sf_k0
    refine pm_R_op pm_M174 (pc_q := 15) (st_q := [.int 0]) rfl rfl rfl ?_
    refine pm_R_ret pm_M174 (r := some (.int 0)) rfl rfl ?_
    show pm_R _ 177 13 [.ref 41, .int 0, .int a0] [.int 0] _ _
    refine pm_R_ret pm_M177 (r := some (.int 0)) rfl rfl ?_
    show pm_R _ 200 6 [.ref 41, .int a0, .int a1] [.int 0] _ _
    refine pm_R_br pm_M200 (pc_q := 18) (st_q := []) rfl rfl ?_
    refine pm_R_op pm_M200 (pc_q := 19) (st_q := [.int 0]) rfl rfl rfl ?_
    refine pm_R_ret pm_M200 (r := some (.int 0)) rfl rfl ?_
    show pm_R _ 199 11 [.ref 41, .int a0, .int a1, .int a2, .int a3, .int a4] [.int 0] _ _
    refine pm_R_br pm_M199 (pc_q := 54) (st_q := []) rfl rfl ?_
    refine pm_R_ldc2 pm_M199 (pc_q := 57) rfl rfl rfl ?_
    exact pm_R_ret pm_M199 (r := some (.long (-1))) rfl rfl (K (-1) m4 w h1 T2 F6 W9 (lf_weak (⟨by decide, by decide⟩ : lf_B (-1) (-1) (-1)) (by decide) (by decide)))
  · have B21 : sf_B 0 2147483647 a0 := sf_leR (Int32.not_lt.mp c19) sf_k0 (sf_any a0)
    refine pm_R_lo pm_M174 (pc_q := 6) rfl rfl rfl ?_
    refine pm_R_lo pm_M174 (pc_q := 7) rfl rfl rfl ?_
    refine pm_R_icmp pm_M174 (t := 14) (pc_q := 10) rfl rfl rfl (fun c22 => ?_) (fun c22 => ?_)
    · skip
      refine pm_R_op pm_M174 (pc_q := 15) (st_q := [.int 0]) rfl rfl rfl ?_
      refine pm_R_ret pm_M174 (r := some (.int 0)) rfl rfl ?_
      show pm_R _ 177 13 [.ref 41, .int 0, .int a0] [.int 0] _ _
      refine pm_R_ret pm_M177 (r := some (.int 0)) rfl rfl ?_
      show pm_R _ 200 6 [.ref 41, .int a0, .int a1] [.int 0] _ _
      refine pm_R_br pm_M200 (pc_q := 18) (st_q := []) rfl rfl ?_
      refine pm_R_op pm_M200 (pc_q := 19) (st_q := [.int 0]) rfl rfl rfl ?_
      refine pm_R_ret pm_M200 (r := some (.int 0)) rfl rfl ?_
      show pm_R _ 199 11 [.ref 41, .int a0, .int a1, .int a2, .int a3, .int a4] [.int 0] _ _
      refine pm_R_br pm_M199 (pc_q := 54) (st_q := []) rfl rfl ?_
      refine pm_R_ldc2 pm_M199 (pc_q := 57) rfl rfl rfl ?_
      exact pm_R_ret pm_M199 (r := some (.long (-1))) rfl rfl (K (-1) m4 w h1 T2 F6 W9 (lf_weak (⟨by decide, by decide⟩ : lf_B (-1) (-1) (-1)) (by decide) (by decide)))
    · have B23 : sf_B 0 1 a0 := sf_leL (Int32.not_lt.mp c22) B21 B18
      have B24 : sf_B 0 1 z16 := sf_leR (Int32.not_lt.mp c22) B21 B18
      refine pm_R_op pm_M174 (pc_q := 11) (st_q := [.int 1]) rfl rfl rfl ?_
      refine pm_R_br pm_M174 (pc_q := 15) rfl rfl ?_
      refine pm_R_ret pm_M174 (r := some (.int 1)) rfl rfl ?_
      show pm_R _ 177 13 [.ref 41, .int 0, .int a0] [.int 1] _ _
      refine pm_R_ret pm_M177 (r := some (.int 1)) rfl rfl ?_
      show pm_R _ 200 6 [.ref 41, .int a0, .int a1] [.int 1] _ _
      refine pm_R_br pm_M200 (pc_q := 9) (st_q := []) rfl rfl ?_
      refine pm_R_lo pm_M200 (pc_q := 10) rfl rfl rfl ?_
      refine pm_R_op pm_M200 (pc_q := 11) (st_q := [.int 1, .ref 41]) rfl rfl rfl ?_
      refine pm_R_lo pm_M200 (pc_q := 12) rfl rfl rfl ?_
      refine pm_R_cv pm_M200 (pc_q := 15) (a := 41) (ra := [.int a1, .int 1]) (rest := []) (ls_q := [.ref 41, .int 1, .int a1]) rfl rfl (Or.inl rfl) pm_M177 T2.2.1 rfl (by decide) (Nat.lt_of_lt_of_le (by decide) T2.1) rfl rfl (Nat.le_of_ble_eq_true rfl) rfl rfl ?_
      refine pm_R_lo pm_M177 (pc_q := 1) rfl rfl rfl ?_
      refine pm_R_op pm_M177 (pc_q := 2) (st_q := [.int 0, .int a1]) rfl rfl rfl ?_
      refine pm_R_lo pm_M177 (pc_q := 3) rfl rfl rfl ?_
      refine rf_R_get pm_M177 T2 (pc_q := 6) (v := .ref 46) rfl rfl rfl rfl ?_
      refine pm_R_lo pm_M177 (pc_q := 7) rfl rfl rfl ?_
      refine rf_R_ild pm_M177 T2 (pc_q := 8) rfl e11 (by decide) rfl rfl (fun z25 ez26 => ?_)
      have B27 : sf_B 0 3 z25 := ez26 ▸ (b12 1)
      refine pm_R_op pm_M177 (pc_q := 9) (st_q := [.int 1, .int z25, .int 0, .int a1]) rfl rfl rfl ?_
      refine sf_R_isub pm_M177 (pc_q := 10) rfl rfl B27 sf_k1 (by decide) (by decide) (fun z28 e29 B30 => ?_)
      refine pm_R_cs pm_M177 (pc_q := 13) (ra := [.int z28, .int 0, .int a1]) (rest := []) (ls_q := [.int a1, .int 0, .int z28]) rfl rfl (Or.inl rfl) pm_M174 rfl rfl (Nat.le_of_ble_eq_true rfl) rfl rfl ?_
      refine pm_R_lo pm_M174 (pc_q := 1) rfl rfl rfl ?_
      refine pm_R_lo pm_M174 (pc_q := 2) rfl rfl rfl ?_
      refine pm_R_icmp pm_M174 (t := 14) (pc_q := 5) rfl rfl rfl (fun c31 => ?_) (fun c31 => ?_)
      · have B32 : sf_B (-2147483648) (-1) a1 := sf_ltL c31 (sf_any a1) sf_k0
        refine pm_R_op pm_M174 (pc_q := 15) (st_q := [.int 0]) rfl rfl rfl ?_
        refine pm_R_ret pm_M174 (r := some (.int 0)) rfl rfl ?_
        show pm_R _ 177 13 [.ref 41, .int 1, .int a1] [.int 0] _ _
        refine pm_R_ret pm_M177 (r := some (.int 0)) rfl rfl ?_
        show pm_R _ 200 15 [.ref 41, .int a0, .int a1] [.int 0] _ _
        refine pm_R_br pm_M200 (pc_q := 18) (st_q := []) rfl rfl ?_
        refine pm_R_op pm_M200 (pc_q := 19) (st_q := [.int 0]) rfl rfl rfl ?_
        refine pm_R_ret pm_M200 (r := some (.int 0)) rfl rfl ?_
        show pm_R _ 199 11 [.ref 41, .int a0, .int a1, .int a2, .int a3, .int a4] [.int 0] _ _
        refine pm_R_br pm_M199 (pc_q := 54) (st_q := []) rfl rfl ?_
        refine pm_R_ldc2 pm_M199 (pc_q := 57) rfl rfl rfl ?_
        exact pm_R_ret pm_M199 (r := some (.long (-1))) rfl rfl (K (-1) m4 w h1 T2 F6 W9 (lf_weak (⟨by decide, by decide⟩ : lf_B (-1) (-1) (-1)) (by decide) (by decide)))
      · have B33 : sf_B 0 2147483647 a1 := sf_leR (Int32.not_lt.mp c31) sf_k0 (sf_any a1)
        refine pm_R_lo pm_M174 (pc_q := 6) rfl rfl rfl ?_
        refine pm_R_lo pm_M174 (pc_q := 7) rfl rfl rfl ?_
        refine pm_R_icmp pm_M174 (t := 14) (pc_q := 10) rfl rfl rfl (fun c34 => ?_) (fun c34 => ?_)
        · skip
          refine pm_R_op pm_M174 (pc_q := 15) (st_q := [.int 0]) rfl rfl rfl ?_
          refine pm_R_ret pm_M174 (r := some (.int 0)) rfl rfl ?_
          show pm_R _ 177 13 [.ref 41, .int 1, .int a1] [.int 0] _ _
          refine pm_R_ret pm_M177 (r := some (.int 0)) rfl rfl ?_
          show pm_R _ 200 15 [.ref 41, .int a0, .int a1] [.int 0] _ _
          refine pm_R_br pm_M200 (pc_q := 18) (st_q := []) rfl rfl ?_
          refine pm_R_op pm_M200 (pc_q := 19) (st_q := [.int 0]) rfl rfl rfl ?_
          refine pm_R_ret pm_M200 (r := some (.int 0)) rfl rfl ?_
          show pm_R _ 199 11 [.ref 41, .int a0, .int a1, .int a2, .int a3, .int a4] [.int 0] _ _
          refine pm_R_br pm_M199 (pc_q := 54) (st_q := []) rfl rfl ?_
          refine pm_R_ldc2 pm_M199 (pc_q := 57) rfl rfl rfl ?_
          exact pm_R_ret pm_M199 (r := some (.long (-1))) rfl rfl (K (-1) m4 w h1 T2 F6 W9 (lf_weak (⟨by decide, by decide⟩ : lf_B (-1) (-1) (-1)) (by decide) (by decide)))
        · have V35 := rf_V.mk e11 ez26 e29 (Int32.not_lt.mp c34) B33 (by decide)
          have V35 := V35.back F6 (by decide)
          have B36 : sf_B 0 2 a1 := sf_leL (Int32.not_lt.mp c34) B33 B30
          have B37 : sf_B 0 2 z28 := sf_leR (Int32.not_lt.mp c34) B33 B30
          refine pm_R_op pm_M174 (pc_q := 11) (st_q := [.int 1]) rfl rfl rfl ?_
          refine pm_R_br pm_M174 (pc_q := 15) rfl rfl ?_
          refine pm_R_ret pm_M174 (r := some (.int 1)) rfl rfl ?_
          show pm_R _ 177 13 [.ref 41, .int 1, .int a1] [.int 1] _ _
          refine pm_R_ret pm_M177 (r := some (.int 1)) rfl rfl ?_
          show pm_R _ 200 15 [.ref 41, .int a0, .int a1] [.int 1] _ _
          refine pm_R_br pm_M200 (pc_q := 20) (st_q := []) rfl rfl ?_
          refine pm_R_lo pm_M200 (pc_q := 21) rfl rfl rfl ?_
          refine pm_R_lo pm_M200 (pc_q := 22) rfl rfl rfl ?_
          refine pm_R_lo pm_M200 (pc_q := 23) rfl rfl rfl ?_
          refine pm_R_cv pm_M200 (pc_q := 26) (a := 41) (ra := [.int a1, .int a0]) (rest := []) (ls_q := [.ref 41, .int a0, .int a1, pm_no]) rfl rfl (Or.inl rfl) pm_M201 T2.2.1 rfl (by decide) (Nat.lt_of_lt_of_le (by decide) T2.1) rfl rfl (Nat.le_of_ble_eq_true rfl) rfl rfl ?_
          refine rf_c201 (d := d + 3) T2 B23 B36 (V35.F F6 (by decide)) (fun m40 w41 h42 T43 F44 W45 X46 B47 => ?_)
          have F48 := F6.trans F44 (by decide)
          have W49 : rf_W [0, 23, 24, 26] m m40 := W9.trans W45 (by decide)
          show pm_R _ 200 26 [.ref 41, .int a0, .int a1] [] _ _
          refine pm_R_op pm_M200 (pc_q := 27) (st_q := [.int 1]) rfl rfl rfl ?_
          refine pm_R_ret pm_M200 (r := some (.int 1)) rfl rfl ?_
          show pm_R _ 199 11 [.ref 41, .int a0, .int a1, .int a2, .int a3, .int a4] [.int 1] _ _
          refine pm_R_br pm_M199 (pc_q := 14) (st_q := []) rfl rfl ?_
          refine pm_R_lo pm_M199 (pc_q := 15) rfl rfl rfl ?_
          refine pm_R_op pm_M199 (pc_q := 16) (st_q := [.int 0, .int a2]) rfl rfl rfl ?_
          refine pm_R_op pm_M199 (pc_q := 17) (st_q := [.int 5, .int 0, .int a2]) rfl rfl rfl ?_
          refine pm_R_cs pm_M199 (pc_q := 20) (ra := [.int 5, .int 0, .int a2]) (rest := []) (ls_q := [.int a2, .int 0, .int 5]) rfl rfl (Or.inl rfl) pm_M174 rfl rfl (Nat.le_of_ble_eq_true rfl) rfl rfl ?_
          refine pm_R_lo pm_M174 (pc_q := 1) rfl rfl rfl ?_
          refine pm_R_lo pm_M174 (pc_q := 2) rfl rfl rfl ?_
          refine pm_R_icmp pm_M174 (t := 14) (pc_q := 5) rfl rfl rfl (fun c50 => ?_) (fun c50 => ?_)
          · have B51 : sf_B (-2147483648) (-1) a2 := sf_ltL c50 (sf_any a2) sf_k0
            refine pm_R_op pm_M174 (pc_q := 15) (st_q := [.int 0]) rfl rfl rfl ?_
            refine pm_R_ret pm_M174 (r := some (.int 0)) rfl rfl ?_
            show pm_R _ 199 20 [.ref 41, .int a0, .int a1, .int a2, .int a3, .int a4] [.int 0] _ _
            refine pm_R_br pm_M199 (pc_q := 54) (st_q := []) rfl rfl ?_
            refine pm_R_ldc2 pm_M199 (pc_q := 57) rfl rfl rfl ?_
            exact pm_R_ret pm_M199 (r := some (.long (-1))) rfl rfl (K (-1) m40 w41 h42 T43 F48 W49 (lf_weak (⟨by decide, by decide⟩ : lf_B (-1) (-1) (-1)) (by decide) (by decide)))
          · have B52 : sf_B 0 2147483647 a2 := sf_leR (Int32.not_lt.mp c50) sf_k0 (sf_any a2)
            refine pm_R_lo pm_M174 (pc_q := 6) rfl rfl rfl ?_
            refine pm_R_lo pm_M174 (pc_q := 7) rfl rfl rfl ?_
            refine pm_R_icmp pm_M174 (t := 14) (pc_q := 10) rfl rfl rfl (fun c53 => ?_) (fun c53 => ?_)
            · have B54 : sf_B 6 2147483647 a2 := sf_ltR c53 sf_k5 B52
              refine pm_R_op pm_M174 (pc_q := 15) (st_q := [.int 0]) rfl rfl rfl ?_
              refine pm_R_ret pm_M174 (r := some (.int 0)) rfl rfl ?_
              show pm_R _ 199 20 [.ref 41, .int a0, .int a1, .int a2, .int a3, .int a4] [.int 0] _ _
              refine pm_R_br pm_M199 (pc_q := 54) (st_q := []) rfl rfl ?_
              refine pm_R_ldc2 pm_M199 (pc_q := 57) rfl rfl rfl ?_
              exact pm_R_ret pm_M199 (r := some (.long (-1))) rfl rfl (K (-1) m40 w41 h42 T43 F48 W49 (lf_weak (⟨by decide, by decide⟩ : lf_B (-1) (-1) (-1)) (by decide) (by decide)))
            · have B55 : sf_B 0 5 a2 := sf_leL (Int32.not_lt.mp c53) B52 sf_k5
              refine pm_R_op pm_M174 (pc_q := 11) (st_q := [.int 1]) rfl rfl rfl ?_
              refine pm_R_br pm_M174 (pc_q := 15) rfl rfl ?_
              refine pm_R_ret pm_M174 (r := some (.int 1)) rfl rfl ?_
              show pm_R _ 199 20 [.ref 41, .int a0, .int a1, .int a2, .int a3, .int a4] [.int 1] _ _
              refine pm_R_br pm_M199 (pc_q := 23) (st_q := []) rfl rfl ?_
              refine pm_R_lo pm_M199 (pc_q := 25) rfl rfl rfl ?_
              refine pm_R_op pm_M199 (pc_q := 26) (st_q := [.int 0, .int a3]) rfl rfl rfl ?_
              refine pm_R_lo pm_M199 (pc_q := 27) rfl rfl rfl ?_
              refine rf_R_get pm_M199 T43 (pc_q := 30) (v := .int (m40 24)) rfl rfl rfl rfl ?_
              refine pm_R_op pm_M199 (pc_q := 31) (st_q := [.int 1, .int (m40 24), .int 0, .int a3]) rfl rfl rfl ?_
              refine sf_R_isub pm_M199 (pc_q := 32) rfl rfl B47 sf_k1 (by decide) (by decide) (fun z56 e57 B58 => ?_)
              refine pm_R_cs pm_M199 (pc_q := 35) (ra := [.int z56, .int 0, .int a3]) (rest := []) (ls_q := [.int a3, .int 0, .int z56]) rfl rfl (Or.inl rfl) pm_M174 rfl rfl (Nat.le_of_ble_eq_true rfl) rfl rfl ?_
              refine pm_R_lo pm_M174 (pc_q := 1) rfl rfl rfl ?_
              refine pm_R_lo pm_M174 (pc_q := 2) rfl rfl rfl ?_
              refine pm_R_icmp pm_M174 (t := 14) (pc_q := 5) rfl rfl rfl (fun c59 => ?_) (fun c59 => ?_)
              · have B60 : sf_B (-2147483648) (-1) a3 := sf_ltL c59 (sf_any a3) sf_k0
                refine pm_R_op pm_M174 (pc_q := 15) (st_q := [.int 0]) rfl rfl rfl ?_
                refine pm_R_ret pm_M174 (r := some (.int 0)) rfl rfl ?_
                show pm_R _ 199 35 [.ref 41, .int a0, .int a1, .int a2, .int a3, .int a4] [.int 0] _ _
                refine pm_R_br pm_M199 (pc_q := 54) (st_q := []) rfl rfl ?_
                refine pm_R_ldc2 pm_M199 (pc_q := 57) rfl rfl rfl ?_
                exact pm_R_ret pm_M199 (r := some (.long (-1))) rfl rfl (K (-1) m40 w41 h42 T43 F48 W49 (lf_weak (⟨by decide, by decide⟩ : lf_B (-1) (-1) (-1)) (by decide) (by decide)))
              · have B61 : sf_B 0 2147483647 a3 := sf_leR (Int32.not_lt.mp c59) sf_k0 (sf_any a3)
                refine pm_R_lo pm_M174 (pc_q := 6) rfl rfl rfl ?_
                refine pm_R_lo pm_M174 (pc_q := 7) rfl rfl rfl ?_
                refine pm_R_icmp pm_M174 (t := 14) (pc_q := 10) rfl rfl rfl (fun c62 => ?_) (fun c62 => ?_)
                · have B63 : sf_B 1 2147483647 a3 := sf_ltR c62 B58 B61
                  refine pm_R_op pm_M174 (pc_q := 15) (st_q := [.int 0]) rfl rfl rfl ?_
                  refine pm_R_ret pm_M174 (r := some (.int 0)) rfl rfl ?_
                  show pm_R _ 199 35 [.ref 41, .int a0, .int a1, .int a2, .int a3, .int a4] [.int 0] _ _
                  refine pm_R_br pm_M199 (pc_q := 54) (st_q := []) rfl rfl ?_
                  refine pm_R_ldc2 pm_M199 (pc_q := 57) rfl rfl rfl ?_
                  exact pm_R_ret pm_M199 (r := some (.long (-1))) rfl rfl (K (-1) m40 w41 h42 T43 F48 W49 (lf_weak (⟨by decide, by decide⟩ : lf_B (-1) (-1) (-1)) (by decide) (by decide)))
                · have B64 : sf_B 0 11 a3 := sf_leL (Int32.not_lt.mp c62) B61 B58
                  refine pm_R_op pm_M174 (pc_q := 11) (st_q := [.int 1]) rfl rfl rfl ?_
                  refine pm_R_br pm_M174 (pc_q := 15) rfl rfl ?_
                  refine pm_R_ret pm_M174 (r := some (.int 1)) rfl rfl ?_
                  show pm_R _ 199 35 [.ref 41, .int a0, .int a1, .int a2, .int a3, .int a4] [.int 1] _ _
                  refine pm_R_br pm_M199 (pc_q := 38) (st_q := []) rfl rfl ?_
                  refine pm_R_lo pm_M199 (pc_q := 40) rfl rfl rfl ?_
                  refine pm_R_lo pm_M199 (pc_q := 42) rfl rfl rfl ?_
                  refine pm_R_lo pm_M199 (pc_q := 43) rfl rfl rfl ?_
                  refine rf_R_get pm_M199 T43 (pc_q := 46) (v := .int (m40 24)) rfl rfl rfl rfl ?_
                  refine pm_R_op pm_M199 (pc_q := 47) (st_q := [.int 1, .int (m40 24), .int a3, .int a4]) rfl rfl rfl ?_
                  refine sf_R_isubV pm_M199 (pc_q := 48) rfl rfl B47 sf_k1 (by decide) (by decide) e57 ?_
                  refine pm_R_cs pm_M199 (pc_q := 51) (ra := [.int z56, .int a3, .int a4]) (rest := []) (ls_q := [.int a4, .int a3, .int z56]) rfl rfl (Or.inl rfl) pm_M174 rfl rfl (Nat.le_of_ble_eq_true rfl) rfl rfl ?_
                  refine pm_R_lo pm_M174 (pc_q := 1) rfl rfl rfl ?_
                  refine pm_R_lo pm_M174 (pc_q := 2) rfl rfl rfl ?_
                  refine pm_R_icmp pm_M174 (t := 14) (pc_q := 5) rfl rfl rfl (fun c65 => ?_) (fun c65 => ?_)
                  · have B66 : sf_B (-2147483648) 10 a4 := sf_ltL c65 (sf_any a4) B64
                    refine pm_R_op pm_M174 (pc_q := 15) (st_q := [.int 0]) rfl rfl rfl ?_
                    refine pm_R_ret pm_M174 (r := some (.int 0)) rfl rfl ?_
                    show pm_R _ 199 51 [.ref 41, .int a0, .int a1, .int a2, .int a3, .int a4] [.int 0] _ _
                    refine pm_R_br pm_M199 (pc_q := 54) (st_q := []) rfl rfl ?_
                    refine pm_R_ldc2 pm_M199 (pc_q := 57) rfl rfl rfl ?_
                    exact pm_R_ret pm_M199 (r := some (.long (-1))) rfl rfl (K (-1) m40 w41 h42 T43 F48 W49 (lf_weak (⟨by decide, by decide⟩ : lf_B (-1) (-1) (-1)) (by decide) (by decide)))
                  · have B67 : sf_B 0 2147483647 a4 := sf_leR (Int32.not_lt.mp c65) B64 (sf_any a4)
                    refine pm_R_lo pm_M174 (pc_q := 6) rfl rfl rfl ?_
                    refine pm_R_lo pm_M174 (pc_q := 7) rfl rfl rfl ?_
                    refine pm_R_icmp pm_M174 (t := 14) (pc_q := 10) rfl rfl rfl (fun c68 => ?_) (fun c68 => ?_)
                    · have B69 : sf_B 1 2147483647 a4 := sf_ltR c68 B58 B67
                      refine pm_R_op pm_M174 (pc_q := 15) (st_q := [.int 0]) rfl rfl rfl ?_
                      refine pm_R_ret pm_M174 (r := some (.int 0)) rfl rfl ?_
                      show pm_R _ 199 51 [.ref 41, .int a0, .int a1, .int a2, .int a3, .int a4] [.int 0] _ _
                      refine pm_R_br pm_M199 (pc_q := 54) (st_q := []) rfl rfl ?_
                      refine pm_R_ldc2 pm_M199 (pc_q := 57) rfl rfl rfl ?_
                      exact pm_R_ret pm_M199 (r := some (.long (-1))) rfl rfl (K (-1) m40 w41 h42 T43 F48 W49 (lf_weak (⟨by decide, by decide⟩ : lf_B (-1) (-1) (-1)) (by decide) (by decide)))
                    · have B70 : sf_B 0 11 a4 := sf_leL (Int32.not_lt.mp c68) B67 B58
                      refine pm_R_op pm_M174 (pc_q := 11) (st_q := [.int 1]) rfl rfl rfl ?_
                      refine pm_R_br pm_M174 (pc_q := 15) rfl rfl ?_
                      refine pm_R_ret pm_M174 (r := some (.int 1)) rfl rfl ?_
                      show pm_R _ 199 51 [.ref 41, .int a0, .int a1, .int a2, .int a3, .int a4] [.int 1] _ _
                      refine pm_R_br pm_M199 (pc_q := 58) (st_q := []) rfl rfl ?_
                      refine pm_R_lo pm_M199 (pc_q := 59) rfl rfl rfl ?_
                      refine pm_R_cv pm_M199 (pc_q := 62) (a := 41) (ra := []) (rest := []) (ls_q := [.ref 41, pm_no, pm_no, pm_no, pm_no, pm_no]) rfl rfl (Or.inl rfl) pm_M202 T43.2.1 rfl (by decide) (Nat.lt_of_lt_of_le (by decide) T43.1) rfl rfl (Nat.le_of_ble_eq_true rfl) rfl rfl ?_
                      refine rf_c202 (d := d + 0) T43  (fun m73 w74 h75 T76 F77 W78 => ?_)
                      have F79 := F48.trans F77 (by decide)
                      have B80 : sf_B 1 12 (m73 24) := by rw [W78 24 (by decide)]; exact B47
                      have W81 : rf_W [0, 23, 24, 26] m m73 := W49.trans W78 (by decide)
                      show pm_R _ 199 62 [.ref 41, .int a0, .int a1, .int a2, .int a3, .int a4] [] _ _
                      refine pm_R_lo pm_M199 (pc_q := 63) rfl rfl rfl ?_
                      refine rf_R_get pm_M199 T76 (pc_q := 66) (v := .ref 55) rfl rfl rfl rfl ?_
                      refine pm_R_lo pm_M199 (pc_q := 67) rfl rfl rfl ?_
                      refine pm_R_lo pm_M199 (pc_q := 69) rfl rfl rfl ?_
                      refine pm_R_lo pm_M199 (pc_q := 71) rfl rfl rfl ?_
                      refine pm_R_cs pm_M199 (pc_q := 74) (ra := [.int a4, .int a3, .int a2]) (rest := [.ref 55]) (ls_q := [.int a2, .int a3, .int a4]) rfl rfl (Or.inl rfl) pm_M207 rfl rfl (Nat.le_of_ble_eq_true rfl) rfl rfl ?_
                      refine pm_R_op pm_M207 (pc_q := 3) (st_q := [.int 144]) rfl rfl rfl ?_
                      refine pm_R_lo pm_M207 (pc_q := 4) rfl rfl rfl ?_
                      refine sf_R_imul pm_M207 (pc_q := 5) rfl rfl sf_k144 B55 (by decide) (by decide) (by decide) (fun z82 e83 B84 => ?_)
                      refine pm_R_op pm_M207 (pc_q := 7) (st_q := [.int 12, .int z82]) rfl rfl rfl ?_
                      refine pm_R_lo pm_M207 (pc_q := 8) rfl rfl rfl ?_
                      refine sf_R_imul pm_M207 (pc_q := 9) rfl rfl sf_k12 B64 (by decide) (by decide) (by decide) (fun z85 e86 B87 => ?_)
                      refine sf_R_iadd pm_M207 (pc_q := 10) rfl rfl B84 B87 (by decide) (by decide) (fun z88 e89 B90 => ?_)
                      refine pm_R_lo pm_M207 (pc_q := 11) rfl rfl rfl ?_
                      refine sf_R_iadd pm_M207 (pc_q := 12) rfl rfl B90 B70 (by decide) (by decide) (fun z91 e92 B93 => ?_)
                      refine pm_R_ret pm_M207 (r := some (.int z91)) rfl (pm_ret_i _) ?_
                      show pm_R _ 199 74 [.ref 41, .int a0, .int a1, .int a2, .int a3, .int a4] [.int z91, .ref 55] _ _
                      obtain ⟨f94, e95, b96⟩ := T76.2.2.2.1 55 (by decide) (by decide)
                      refine rf_R_lld pm_M199 T76 (pc_q := 75) rfl e95 (by decide) (by decide) (sf_in B93 (by decide) (by decide)) rfl (fun z97 ez98 => ?_)
                      have B99 : lf_B 0 1000000000000 z97 := ez98 ▸ b96 _
                      exact pm_R_ret pm_M199 (r := some (.long z97)) rfl rfl (K z97 m73 w74 h75 T76 F79 W81 (lf_weak B99 (by decide) (by decide)))

set_option maxRecDepth 100000 in
set_option maxHeartbeats 4000000 in
/-- SilentTableModel.means -/
theorem rf_c214 {d : Nat} {m : Nat → Int32} {w : Int64} {h : pm_H} {Q : Option Value → pm_H → Prop} {a0 : Int32} {a1 : Int32} {a2 : Int32} (T : rf_T m w h)  (K : ∀ (r : Int32) (m_q : Nat → Int32) (w_q : Int64) (h_q : pm_H), rf_T m_q w_q h_q → rf_G [41, 53, 54] h h_q → rf_W [0, 23, 24, 26] m m_q → sf_B (-2) 50 r → Q (some (.int r)) h_q) : pm_R (d + 6) 214 0 [.ref 41, .int a0, .int a1, .int a2] [] h Q := by
  refine pm_R_lo pm_M214 (pc_q := 1) rfl rfl rfl ?_
  refine pm_R_op pm_M214 (pc_q := 2) (st_q := [.int 0, .ref 41]) rfl rfl rfl ?_
  refine rf_R_put pm_M214 T (pc_q := 5) rfl rfl rfl (by decide) rfl rfl sf_k0 rfl rfl (fun h1 m4 em5 T2 F3 => ?_)
  have F6 := (rf_G.refl [41, 53, 54] h).trans F3 (by decide)
  have B7 : sf_B 0 0 (m4 0) := by rw [em5]; exact sf_k0
  have W9 : rf_W [0, 23, 24, 26] m m4 := by rw [em5]; exact (rf_W.refl [0, 23, 24, 26] m).put (by decide)
  refine pm_R_lo pm_M214 (pc_q := 6) rfl rfl rfl ?_
  refine pm_R_lo pm_M214 (pc_q := 7) rfl rfl rfl ?_
  refine pm_R_lo pm_M214 (pc_q := 8) rfl rfl rfl ?_
  refine pm_R_cv pm_M214 (pc_q := 11) (a := 41) (ra := [.int a1, .int a0]) (rest := []) (ls_q := [.ref 41, .int a0, .int a1]) rfl rfl (Or.inl rfl) pm_M200 T2.2.1 rfl (by decide) (Nat.lt_of_lt_of_le (by decide) T2.1) rfl rfl (Nat.le_of_ble_eq_true rfl) rfl rfl ?_
  refine pm_R_lo pm_M200 (pc_q := 1) rfl rfl rfl ?_
  refine pm_R_op pm_M200 (pc_q := 2) (st_q := [.int 0, .ref 41]) rfl rfl rfl ?_
  refine pm_R_lo pm_M200 (pc_q := 3) rfl rfl rfl ?_
  refine pm_R_cv pm_M200 (pc_q := 6) (a := 41) (ra := [.int a0, .int 0]) (rest := []) (ls_q := [.ref 41, .int 0, .int a0]) rfl rfl (Or.inl rfl) pm_M177 T2.2.1 rfl (by decide) (Nat.lt_of_lt_of_le (by decide) T2.1) rfl rfl (Nat.le_of_ble_eq_true rfl) rfl rfl ?_
  refine pm_R_lo pm_M177 (pc_q := 1) rfl rfl rfl ?_
  refine pm_R_op pm_M177 (pc_q := 2) (st_q := [.int 0, .int a0]) rfl rfl rfl ?_
  refine pm_R_lo pm_M177 (pc_q := 3) rfl rfl rfl ?_
  refine rf_R_get pm_M177 T2 (pc_q := 6) (v := .ref 46) rfl rfl rfl rfl ?_
  refine pm_R_lo pm_M177 (pc_q := 7) rfl rfl rfl ?_
  obtain ⟨f10, e11, b12⟩ := T2.2.2.2.1 46 (by decide) (by decide)
  refine rf_R_ild pm_M177 T2 (pc_q := 8) rfl e11 (by decide) rfl rfl (fun z13 ez14 => ?_)
  have B15 : sf_B 0 2 z13 := ez14 ▸ (b12 0)
  refine pm_R_op pm_M177 (pc_q := 9) (st_q := [.int 1, .int z13, .int 0, .int a0]) rfl rfl rfl ?_
  refine sf_R_isub pm_M177 (pc_q := 10) rfl rfl B15 sf_k1 (by decide) (by decide) (fun z16 e17 B18 => ?_)
  refine pm_R_cs pm_M177 (pc_q := 13) (ra := [.int z16, .int 0, .int a0]) (rest := []) (ls_q := [.int a0, .int 0, .int z16]) rfl rfl (Or.inl rfl) pm_M174 rfl rfl (Nat.le_of_ble_eq_true rfl) rfl rfl ?_
  refine pm_R_lo pm_M174 (pc_q := 1) rfl rfl rfl ?_
  refine pm_R_lo pm_M174 (pc_q := 2) rfl rfl rfl ?_
  refine pm_R_icmp pm_M174 (t := 14) (pc_q := 5) rfl rfl rfl (fun c19 => ?_) (fun c19 => ?_)
  · have B20 : sf_B (-2147483648) (-1) a0 := sf_ltL c19 (sf_any a0) sf_k0
    refine pm_R_op pm_M174 (pc_q := 15) (st_q := [.int 0]) rfl rfl rfl ?_
    refine pm_R_ret pm_M174 (r := some (.int 0)) rfl rfl ?_
    show pm_R _ 177 13 [.ref 41, .int 0, .int a0] [.int 0] _ _
    refine pm_R_ret pm_M177 (r := some (.int 0)) rfl rfl ?_
    show pm_R _ 200 6 [.ref 41, .int a0, .int a1] [.int 0] _ _
    refine pm_R_br pm_M200 (pc_q := 18) (st_q := []) rfl rfl ?_
    refine pm_R_op pm_M200 (pc_q := 19) (st_q := [.int 0]) rfl rfl rfl ?_
    refine pm_R_ret pm_M200 (r := some (.int 0)) rfl rfl ?_
    show pm_R _ 214 11 [.ref 41, .int a0, .int a1, .int a2] [.int 0] _ _
    refine pm_R_br pm_M214 (pc_q := 25) (st_q := []) rfl rfl ?_
    refine pm_R_op pm_M214 (pc_q := 27) (st_q := [.int (-2)]) rfl rfl rfl ?_
    exact pm_R_ret pm_M214 (r := some (.int (-2))) rfl rfl (K (-2) m4 w h1 T2 F6 W9 (sf_weak sf_kn2 (by decide) (by decide)))
  · have B21 : sf_B 0 2147483647 a0 := sf_leR (Int32.not_lt.mp c19) sf_k0 (sf_any a0)
    refine pm_R_lo pm_M174 (pc_q := 6) rfl rfl rfl ?_
    refine pm_R_lo pm_M174 (pc_q := 7) rfl rfl rfl ?_
    refine pm_R_icmp pm_M174 (t := 14) (pc_q := 10) rfl rfl rfl (fun c22 => ?_) (fun c22 => ?_)
    · skip
      refine pm_R_op pm_M174 (pc_q := 15) (st_q := [.int 0]) rfl rfl rfl ?_
      refine pm_R_ret pm_M174 (r := some (.int 0)) rfl rfl ?_
      show pm_R _ 177 13 [.ref 41, .int 0, .int a0] [.int 0] _ _
      refine pm_R_ret pm_M177 (r := some (.int 0)) rfl rfl ?_
      show pm_R _ 200 6 [.ref 41, .int a0, .int a1] [.int 0] _ _
      refine pm_R_br pm_M200 (pc_q := 18) (st_q := []) rfl rfl ?_
      refine pm_R_op pm_M200 (pc_q := 19) (st_q := [.int 0]) rfl rfl rfl ?_
      refine pm_R_ret pm_M200 (r := some (.int 0)) rfl rfl ?_
      show pm_R _ 214 11 [.ref 41, .int a0, .int a1, .int a2] [.int 0] _ _
      refine pm_R_br pm_M214 (pc_q := 25) (st_q := []) rfl rfl ?_
      refine pm_R_op pm_M214 (pc_q := 27) (st_q := [.int (-2)]) rfl rfl rfl ?_
      exact pm_R_ret pm_M214 (r := some (.int (-2))) rfl rfl (K (-2) m4 w h1 T2 F6 W9 (sf_weak sf_kn2 (by decide) (by decide)))
    · have B23 : sf_B 0 1 a0 := sf_leL (Int32.not_lt.mp c22) B21 B18
      have B24 : sf_B 0 1 z16 := sf_leR (Int32.not_lt.mp c22) B21 B18
      refine pm_R_op pm_M174 (pc_q := 11) (st_q := [.int 1]) rfl rfl rfl ?_
      refine pm_R_br pm_M174 (pc_q := 15) rfl rfl ?_
      refine pm_R_ret pm_M174 (r := some (.int 1)) rfl rfl ?_
      show pm_R _ 177 13 [.ref 41, .int 0, .int a0] [.int 1] _ _
      refine pm_R_ret pm_M177 (r := some (.int 1)) rfl rfl ?_
      show pm_R _ 200 6 [.ref 41, .int a0, .int a1] [.int 1] _ _
      refine pm_R_br pm_M200 (pc_q := 9) (st_q := []) rfl rfl ?_
      refine pm_R_lo pm_M200 (pc_q := 10) rfl rfl rfl ?_
      refine pm_R_op pm_M200 (pc_q := 11) (st_q := [.int 1, .ref 41]) rfl rfl rfl ?_
      refine pm_R_lo pm_M200 (pc_q := 12) rfl rfl rfl ?_
      refine pm_R_cv pm_M200 (pc_q := 15) (a := 41) (ra := [.int a1, .int 1]) (rest := []) (ls_q := [.ref 41, .int 1, .int a1]) rfl rfl (Or.inl rfl) pm_M177 T2.2.1 rfl (by decide) (Nat.lt_of_lt_of_le (by decide) T2.1) rfl rfl (Nat.le_of_ble_eq_true rfl) rfl rfl ?_
      refine pm_R_lo pm_M177 (pc_q := 1) rfl rfl rfl ?_
      refine pm_R_op pm_M177 (pc_q := 2) (st_q := [.int 0, .int a1]) rfl rfl rfl ?_
      refine pm_R_lo pm_M177 (pc_q := 3) rfl rfl rfl ?_
      refine rf_R_get pm_M177 T2 (pc_q := 6) (v := .ref 46) rfl rfl rfl rfl ?_
      refine pm_R_lo pm_M177 (pc_q := 7) rfl rfl rfl ?_
      refine rf_R_ild pm_M177 T2 (pc_q := 8) rfl e11 (by decide) rfl rfl (fun z25 ez26 => ?_)
      have B27 : sf_B 0 3 z25 := ez26 ▸ (b12 1)
      refine pm_R_op pm_M177 (pc_q := 9) (st_q := [.int 1, .int z25, .int 0, .int a1]) rfl rfl rfl ?_
      refine sf_R_isub pm_M177 (pc_q := 10) rfl rfl B27 sf_k1 (by decide) (by decide) (fun z28 e29 B30 => ?_)
      refine pm_R_cs pm_M177 (pc_q := 13) (ra := [.int z28, .int 0, .int a1]) (rest := []) (ls_q := [.int a1, .int 0, .int z28]) rfl rfl (Or.inl rfl) pm_M174 rfl rfl (Nat.le_of_ble_eq_true rfl) rfl rfl ?_
      refine pm_R_lo pm_M174 (pc_q := 1) rfl rfl rfl ?_
      refine pm_R_lo pm_M174 (pc_q := 2) rfl rfl rfl ?_
      refine pm_R_icmp pm_M174 (t := 14) (pc_q := 5) rfl rfl rfl (fun c31 => ?_) (fun c31 => ?_)
      · have B32 : sf_B (-2147483648) (-1) a1 := sf_ltL c31 (sf_any a1) sf_k0
        refine pm_R_op pm_M174 (pc_q := 15) (st_q := [.int 0]) rfl rfl rfl ?_
        refine pm_R_ret pm_M174 (r := some (.int 0)) rfl rfl ?_
        show pm_R _ 177 13 [.ref 41, .int 1, .int a1] [.int 0] _ _
        refine pm_R_ret pm_M177 (r := some (.int 0)) rfl rfl ?_
        show pm_R _ 200 15 [.ref 41, .int a0, .int a1] [.int 0] _ _
        refine pm_R_br pm_M200 (pc_q := 18) (st_q := []) rfl rfl ?_
        refine pm_R_op pm_M200 (pc_q := 19) (st_q := [.int 0]) rfl rfl rfl ?_
        refine pm_R_ret pm_M200 (r := some (.int 0)) rfl rfl ?_
        show pm_R _ 214 11 [.ref 41, .int a0, .int a1, .int a2] [.int 0] _ _
        refine pm_R_br pm_M214 (pc_q := 25) (st_q := []) rfl rfl ?_
        refine pm_R_op pm_M214 (pc_q := 27) (st_q := [.int (-2)]) rfl rfl rfl ?_
        exact pm_R_ret pm_M214 (r := some (.int (-2))) rfl rfl (K (-2) m4 w h1 T2 F6 W9 (sf_weak sf_kn2 (by decide) (by decide)))
      · have B33 : sf_B 0 2147483647 a1 := sf_leR (Int32.not_lt.mp c31) sf_k0 (sf_any a1)
        refine pm_R_lo pm_M174 (pc_q := 6) rfl rfl rfl ?_
        refine pm_R_lo pm_M174 (pc_q := 7) rfl rfl rfl ?_
        refine pm_R_icmp pm_M174 (t := 14) (pc_q := 10) rfl rfl rfl (fun c34 => ?_) (fun c34 => ?_)
        · skip
          refine pm_R_op pm_M174 (pc_q := 15) (st_q := [.int 0]) rfl rfl rfl ?_
          refine pm_R_ret pm_M174 (r := some (.int 0)) rfl rfl ?_
          show pm_R _ 177 13 [.ref 41, .int 1, .int a1] [.int 0] _ _
          refine pm_R_ret pm_M177 (r := some (.int 0)) rfl rfl ?_
          show pm_R _ 200 15 [.ref 41, .int a0, .int a1] [.int 0] _ _
          refine pm_R_br pm_M200 (pc_q := 18) (st_q := []) rfl rfl ?_
          refine pm_R_op pm_M200 (pc_q := 19) (st_q := [.int 0]) rfl rfl rfl ?_
          refine pm_R_ret pm_M200 (r := some (.int 0)) rfl rfl ?_
          show pm_R _ 214 11 [.ref 41, .int a0, .int a1, .int a2] [.int 0] _ _
          refine pm_R_br pm_M214 (pc_q := 25) (st_q := []) rfl rfl ?_
          refine pm_R_op pm_M214 (pc_q := 27) (st_q := [.int (-2)]) rfl rfl rfl ?_
          exact pm_R_ret pm_M214 (r := some (.int (-2))) rfl rfl (K (-2) m4 w h1 T2 F6 W9 (sf_weak sf_kn2 (by decide) (by decide)))
        · have V35 := rf_V.mk e11 ez26 e29 (Int32.not_lt.mp c34) B33 (by decide)
          have V35 := V35.back F6 (by decide)
          have B36 : sf_B 0 2 a1 := sf_leL (Int32.not_lt.mp c34) B33 B30
          have B37 : sf_B 0 2 z28 := sf_leR (Int32.not_lt.mp c34) B33 B30
          refine pm_R_op pm_M174 (pc_q := 11) (st_q := [.int 1]) rfl rfl rfl ?_
          refine pm_R_br pm_M174 (pc_q := 15) rfl rfl ?_
          refine pm_R_ret pm_M174 (r := some (.int 1)) rfl rfl ?_
          show pm_R _ 177 13 [.ref 41, .int 1, .int a1] [.int 1] _ _
          refine pm_R_ret pm_M177 (r := some (.int 1)) rfl rfl ?_
          show pm_R _ 200 15 [.ref 41, .int a0, .int a1] [.int 1] _ _
          refine pm_R_br pm_M200 (pc_q := 20) (st_q := []) rfl rfl ?_
          refine pm_R_lo pm_M200 (pc_q := 21) rfl rfl rfl ?_
          refine pm_R_lo pm_M200 (pc_q := 22) rfl rfl rfl ?_
          refine pm_R_lo pm_M200 (pc_q := 23) rfl rfl rfl ?_
          refine pm_R_cv pm_M200 (pc_q := 26) (a := 41) (ra := [.int a1, .int a0]) (rest := []) (ls_q := [.ref 41, .int a0, .int a1, pm_no]) rfl rfl (Or.inl rfl) pm_M201 T2.2.1 rfl (by decide) (Nat.lt_of_lt_of_le (by decide) T2.1) rfl rfl (Nat.le_of_ble_eq_true rfl) rfl rfl ?_
          refine rf_c201 (d := d + 4) T2 B23 B36 (V35.F F6 (by decide)) (fun m40 w41 h42 T43 F44 W45 X46 B47 => ?_)
          have F48 := F6.trans F44 (by decide)
          have W49 : rf_W [0, 23, 24, 26] m m40 := W9.trans W45 (by decide)
          show pm_R _ 200 26 [.ref 41, .int a0, .int a1] [] _ _
          refine pm_R_op pm_M200 (pc_q := 27) (st_q := [.int 1]) rfl rfl rfl ?_
          refine pm_R_ret pm_M200 (r := some (.int 1)) rfl rfl ?_
          show pm_R _ 214 11 [.ref 41, .int a0, .int a1, .int a2] [.int 1] _ _
          refine pm_R_br pm_M214 (pc_q := 14) (st_q := []) rfl rfl ?_
          refine pm_R_lo pm_M214 (pc_q := 15) rfl rfl rfl ?_
          refine pm_R_cv pm_M214 (pc_q := 18) (a := 41) (ra := []) (rest := []) (ls_q := [.ref 41]) rfl rfl (Or.inl rfl) pm_M215 T43.2.1 rfl (by decide) (Nat.lt_of_lt_of_le (by decide) T43.1) rfl rfl (Nat.le_of_ble_eq_true rfl) rfl rfl ?_
          refine rf_c215 (d := d + 0) T43 B47 (fun r50 m52 w53 h54 T55 F56 W57 => ?_)
          have F58 := F48.trans F56 (by decide)
          have B59 : sf_B 1 12 (m52 24) := by rw [W57 24 (by decide)]; exact B47
          have W60 : rf_W [0, 23, 24, 26] m m52 := W49.trans W57 (by decide)
          show pm_R _ 214 18 [.ref 41, .int a0, .int a1, .int a2] [.long r50] _ _
          refine pm_R_lo pm_M214 (pc_q := 19) rfl rfl rfl ?_
          refine pm_R_cs pm_M214 (pc_q := 22) (ra := [.int a2, .long r50]) (rest := []) (ls_q := [.long r50, pm_no, .int a2, pm_no, pm_no]) rfl rfl (Or.inl rfl) pm_M221 rfl rfl (Nat.le_of_ble_eq_true rfl) rfl rfl ?_
          refine rf_c221 (d := d + 3)  (fun r61 B62 => ?_)
          show pm_R _ 214 22 [.ref 41, .int a0, .int a1, .int a2] [.int r61] _ _
          refine pm_R_br pm_M214 (pc_q := 27) rfl rfl ?_
          exact pm_R_ret pm_M214 (r := some (.int r61)) rfl (pm_ret_i _) (K r61 m52 w53 h54 T55 F58 W60 B62)

set_option maxRecDepth 100000 in
set_option maxHeartbeats 4000000 in
/-- SilentTableModel.ways -/
theorem rf_c223 {d : Nat} {m : Nat → Int32} {w : Int64} {h : pm_H} {Q : Option Value → pm_H → Prop} {a0 : Int32} {a1 : Int32} {a2 : Int32} (T : rf_T m w h)  (K : ∀ (r : Int64) (m_q : Nat → Int32) (w_q : Int64) (h_q : pm_H), rf_T m_q w_q h_q → rf_G [41, 53, 56] h h_q → rf_W [0, 23, 24, 26] m m_q → Q (some (.long r)) h_q) : pm_R (d + 4) 223 0 [.ref 41, .int a0, .int a1, .int a2] [] h Q := by
  refine pm_R_lo pm_M223 (pc_q := 1) rfl rfl rfl ?_
  refine pm_R_op pm_M223 (pc_q := 2) (st_q := [.int 0, .ref 41]) rfl rfl rfl ?_
  refine rf_R_put pm_M223 T (pc_q := 5) rfl rfl rfl (by decide) rfl rfl sf_k0 rfl rfl (fun h1 m4 em5 T2 F3 => ?_)
  have F6 := (rf_G.refl [41, 53, 56] h).trans F3 (by decide)
  have B7 : sf_B 0 0 (m4 0) := by rw [em5]; exact sf_k0
  have W9 : rf_W [0, 23, 24, 26] m m4 := by rw [em5]; exact (rf_W.refl [0, 23, 24, 26] m).put (by decide)
  refine pm_R_lo pm_M223 (pc_q := 6) rfl rfl rfl ?_
  refine pm_R_op pm_M223 (pc_q := 7) (st_q := [.int 0, .int a2]) rfl rfl rfl ?_
  refine pm_R_op pm_M223 (pc_q := 9) (st_q := [.int 49, .int 0, .int a2]) rfl rfl rfl ?_
  refine pm_R_cs pm_M223 (pc_q := 12) (ra := [.int 49, .int 0, .int a2]) (rest := []) (ls_q := [.int a2, .int 0, .int 49]) rfl rfl (Or.inl rfl) pm_M174 rfl rfl (Nat.le_of_ble_eq_true rfl) rfl rfl ?_
  refine pm_R_lo pm_M174 (pc_q := 1) rfl rfl rfl ?_
  refine pm_R_lo pm_M174 (pc_q := 2) rfl rfl rfl ?_
  refine pm_R_icmp pm_M174 (t := 14) (pc_q := 5) rfl rfl rfl (fun c10 => ?_) (fun c10 => ?_)
  · have B11 : sf_B (-2147483648) (-1) a2 := sf_ltL c10 (sf_any a2) sf_k0
    refine pm_R_op pm_M174 (pc_q := 15) (st_q := [.int 0]) rfl rfl rfl ?_
    refine pm_R_ret pm_M174 (r := some (.int 0)) rfl rfl ?_
    show pm_R _ 223 12 [.ref 41, .int a0, .int a1, .int a2] [.int 0] _ _
    refine pm_R_br pm_M223 (pc_q := 24) (st_q := []) rfl rfl ?_
    refine pm_R_ldc2 pm_M223 (pc_q := 27) rfl rfl rfl ?_
    exact pm_R_ret pm_M223 (r := some (.long (-1))) rfl rfl (K (-1) m4 w h1 T2 F6 W9)
  · have B12 : sf_B 0 2147483647 a2 := sf_leR (Int32.not_lt.mp c10) sf_k0 (sf_any a2)
    refine pm_R_lo pm_M174 (pc_q := 6) rfl rfl rfl ?_
    refine pm_R_lo pm_M174 (pc_q := 7) rfl rfl rfl ?_
    refine pm_R_icmp pm_M174 (t := 14) (pc_q := 10) rfl rfl rfl (fun c13 => ?_) (fun c13 => ?_)
    · have B14 : sf_B 50 2147483647 a2 := sf_ltR c13 sf_k49 B12
      refine pm_R_op pm_M174 (pc_q := 15) (st_q := [.int 0]) rfl rfl rfl ?_
      refine pm_R_ret pm_M174 (r := some (.int 0)) rfl rfl ?_
      show pm_R _ 223 12 [.ref 41, .int a0, .int a1, .int a2] [.int 0] _ _
      refine pm_R_br pm_M223 (pc_q := 24) (st_q := []) rfl rfl ?_
      refine pm_R_ldc2 pm_M223 (pc_q := 27) rfl rfl rfl ?_
      exact pm_R_ret pm_M223 (r := some (.long (-1))) rfl rfl (K (-1) m4 w h1 T2 F6 W9)
    · have B15 : sf_B 0 49 a2 := sf_leL (Int32.not_lt.mp c13) B12 sf_k49
      refine pm_R_op pm_M174 (pc_q := 11) (st_q := [.int 1]) rfl rfl rfl ?_
      refine pm_R_br pm_M174 (pc_q := 15) rfl rfl ?_
      refine pm_R_ret pm_M174 (r := some (.int 1)) rfl rfl ?_
      show pm_R _ 223 12 [.ref 41, .int a0, .int a1, .int a2] [.int 1] _ _
      refine pm_R_br pm_M223 (pc_q := 15) (st_q := []) rfl rfl ?_
      refine pm_R_lo pm_M223 (pc_q := 16) rfl rfl rfl ?_
      refine pm_R_lo pm_M223 (pc_q := 17) rfl rfl rfl ?_
      refine pm_R_lo pm_M223 (pc_q := 18) rfl rfl rfl ?_
      refine pm_R_cv pm_M223 (pc_q := 21) (a := 41) (ra := [.int a1, .int a0]) (rest := []) (ls_q := [.ref 41, .int a0, .int a1]) rfl rfl (Or.inl rfl) pm_M200 T2.2.1 rfl (by decide) (Nat.lt_of_lt_of_le (by decide) T2.1) rfl rfl (Nat.le_of_ble_eq_true rfl) rfl rfl ?_
      refine pm_R_lo pm_M200 (pc_q := 1) rfl rfl rfl ?_
      refine pm_R_op pm_M200 (pc_q := 2) (st_q := [.int 0, .ref 41]) rfl rfl rfl ?_
      refine pm_R_lo pm_M200 (pc_q := 3) rfl rfl rfl ?_
      refine pm_R_cv pm_M200 (pc_q := 6) (a := 41) (ra := [.int a0, .int 0]) (rest := []) (ls_q := [.ref 41, .int 0, .int a0]) rfl rfl (Or.inl rfl) pm_M177 T2.2.1 rfl (by decide) (Nat.lt_of_lt_of_le (by decide) T2.1) rfl rfl (Nat.le_of_ble_eq_true rfl) rfl rfl ?_
      refine pm_R_lo pm_M177 (pc_q := 1) rfl rfl rfl ?_
      refine pm_R_op pm_M177 (pc_q := 2) (st_q := [.int 0, .int a0]) rfl rfl rfl ?_
      refine pm_R_lo pm_M177 (pc_q := 3) rfl rfl rfl ?_
      refine rf_R_get pm_M177 T2 (pc_q := 6) (v := .ref 46) rfl rfl rfl rfl ?_
      refine pm_R_lo pm_M177 (pc_q := 7) rfl rfl rfl ?_
      obtain ⟨f16, e17, b18⟩ := T2.2.2.2.1 46 (by decide) (by decide)
      refine rf_R_ild pm_M177 T2 (pc_q := 8) rfl e17 (by decide) rfl rfl (fun z19 ez20 => ?_)
      have B21 : sf_B 0 2 z19 := ez20 ▸ (b18 0)
      refine pm_R_op pm_M177 (pc_q := 9) (st_q := [.int 1, .int z19, .int 0, .int a0]) rfl rfl rfl ?_
      refine sf_R_isub pm_M177 (pc_q := 10) rfl rfl B21 sf_k1 (by decide) (by decide) (fun z22 e23 B24 => ?_)
      refine pm_R_cs pm_M177 (pc_q := 13) (ra := [.int z22, .int 0, .int a0]) (rest := []) (ls_q := [.int a0, .int 0, .int z22]) rfl rfl (Or.inl rfl) pm_M174 rfl rfl (Nat.le_of_ble_eq_true rfl) rfl rfl ?_
      refine pm_R_lo pm_M174 (pc_q := 1) rfl rfl rfl ?_
      refine pm_R_lo pm_M174 (pc_q := 2) rfl rfl rfl ?_
      refine pm_R_icmp pm_M174 (t := 14) (pc_q := 5) rfl rfl rfl (fun c25 => ?_) (fun c25 => ?_)
      · have B26 : sf_B (-2147483648) (-1) a0 := sf_ltL c25 (sf_any a0) sf_k0
        refine pm_R_op pm_M174 (pc_q := 15) (st_q := [.int 0]) rfl rfl rfl ?_
        refine pm_R_ret pm_M174 (r := some (.int 0)) rfl rfl ?_
        show pm_R _ 177 13 [.ref 41, .int 0, .int a0] [.int 0] _ _
        refine pm_R_ret pm_M177 (r := some (.int 0)) rfl rfl ?_
        show pm_R _ 200 6 [.ref 41, .int a0, .int a1] [.int 0] _ _
        refine pm_R_br pm_M200 (pc_q := 18) (st_q := []) rfl rfl ?_
        refine pm_R_op pm_M200 (pc_q := 19) (st_q := [.int 0]) rfl rfl rfl ?_
        refine pm_R_ret pm_M200 (r := some (.int 0)) rfl rfl ?_
        show pm_R _ 223 21 [.ref 41, .int a0, .int a1, .int a2] [.int 0] _ _
        refine pm_R_br pm_M223 (pc_q := 24) (st_q := []) rfl rfl ?_
        refine pm_R_ldc2 pm_M223 (pc_q := 27) rfl rfl rfl ?_
        exact pm_R_ret pm_M223 (r := some (.long (-1))) rfl rfl (K (-1) m4 w h1 T2 F6 W9)
      · have B27 : sf_B 0 2147483647 a0 := sf_leR (Int32.not_lt.mp c25) sf_k0 (sf_any a0)
        refine pm_R_lo pm_M174 (pc_q := 6) rfl rfl rfl ?_
        refine pm_R_lo pm_M174 (pc_q := 7) rfl rfl rfl ?_
        refine pm_R_icmp pm_M174 (t := 14) (pc_q := 10) rfl rfl rfl (fun c28 => ?_) (fun c28 => ?_)
        · skip
          refine pm_R_op pm_M174 (pc_q := 15) (st_q := [.int 0]) rfl rfl rfl ?_
          refine pm_R_ret pm_M174 (r := some (.int 0)) rfl rfl ?_
          show pm_R _ 177 13 [.ref 41, .int 0, .int a0] [.int 0] _ _
          refine pm_R_ret pm_M177 (r := some (.int 0)) rfl rfl ?_
          show pm_R _ 200 6 [.ref 41, .int a0, .int a1] [.int 0] _ _
          refine pm_R_br pm_M200 (pc_q := 18) (st_q := []) rfl rfl ?_
          refine pm_R_op pm_M200 (pc_q := 19) (st_q := [.int 0]) rfl rfl rfl ?_
          refine pm_R_ret pm_M200 (r := some (.int 0)) rfl rfl ?_
          show pm_R _ 223 21 [.ref 41, .int a0, .int a1, .int a2] [.int 0] _ _
          refine pm_R_br pm_M223 (pc_q := 24) (st_q := []) rfl rfl ?_
          refine pm_R_ldc2 pm_M223 (pc_q := 27) rfl rfl rfl ?_
          exact pm_R_ret pm_M223 (r := some (.long (-1))) rfl rfl (K (-1) m4 w h1 T2 F6 W9)
        · have B29 : sf_B 0 1 a0 := sf_leL (Int32.not_lt.mp c28) B27 B24
          have B30 : sf_B 0 1 z22 := sf_leR (Int32.not_lt.mp c28) B27 B24
          refine pm_R_op pm_M174 (pc_q := 11) (st_q := [.int 1]) rfl rfl rfl ?_
          refine pm_R_br pm_M174 (pc_q := 15) rfl rfl ?_
          refine pm_R_ret pm_M174 (r := some (.int 1)) rfl rfl ?_
          show pm_R _ 177 13 [.ref 41, .int 0, .int a0] [.int 1] _ _
          refine pm_R_ret pm_M177 (r := some (.int 1)) rfl rfl ?_
          show pm_R _ 200 6 [.ref 41, .int a0, .int a1] [.int 1] _ _
          refine pm_R_br pm_M200 (pc_q := 9) (st_q := []) rfl rfl ?_
          refine pm_R_lo pm_M200 (pc_q := 10) rfl rfl rfl ?_
          refine pm_R_op pm_M200 (pc_q := 11) (st_q := [.int 1, .ref 41]) rfl rfl rfl ?_
          refine pm_R_lo pm_M200 (pc_q := 12) rfl rfl rfl ?_
          refine pm_R_cv pm_M200 (pc_q := 15) (a := 41) (ra := [.int a1, .int 1]) (rest := []) (ls_q := [.ref 41, .int 1, .int a1]) rfl rfl (Or.inl rfl) pm_M177 T2.2.1 rfl (by decide) (Nat.lt_of_lt_of_le (by decide) T2.1) rfl rfl (Nat.le_of_ble_eq_true rfl) rfl rfl ?_
          refine pm_R_lo pm_M177 (pc_q := 1) rfl rfl rfl ?_
          refine pm_R_op pm_M177 (pc_q := 2) (st_q := [.int 0, .int a1]) rfl rfl rfl ?_
          refine pm_R_lo pm_M177 (pc_q := 3) rfl rfl rfl ?_
          refine rf_R_get pm_M177 T2 (pc_q := 6) (v := .ref 46) rfl rfl rfl rfl ?_
          refine pm_R_lo pm_M177 (pc_q := 7) rfl rfl rfl ?_
          refine rf_R_ild pm_M177 T2 (pc_q := 8) rfl e17 (by decide) rfl rfl (fun z31 ez32 => ?_)
          have B33 : sf_B 0 3 z31 := ez32 ▸ (b18 1)
          refine pm_R_op pm_M177 (pc_q := 9) (st_q := [.int 1, .int z31, .int 0, .int a1]) rfl rfl rfl ?_
          refine sf_R_isub pm_M177 (pc_q := 10) rfl rfl B33 sf_k1 (by decide) (by decide) (fun z34 e35 B36 => ?_)
          refine pm_R_cs pm_M177 (pc_q := 13) (ra := [.int z34, .int 0, .int a1]) (rest := []) (ls_q := [.int a1, .int 0, .int z34]) rfl rfl (Or.inl rfl) pm_M174 rfl rfl (Nat.le_of_ble_eq_true rfl) rfl rfl ?_
          refine pm_R_lo pm_M174 (pc_q := 1) rfl rfl rfl ?_
          refine pm_R_lo pm_M174 (pc_q := 2) rfl rfl rfl ?_
          refine pm_R_icmp pm_M174 (t := 14) (pc_q := 5) rfl rfl rfl (fun c37 => ?_) (fun c37 => ?_)
          · have B38 : sf_B (-2147483648) (-1) a1 := sf_ltL c37 (sf_any a1) sf_k0
            refine pm_R_op pm_M174 (pc_q := 15) (st_q := [.int 0]) rfl rfl rfl ?_
            refine pm_R_ret pm_M174 (r := some (.int 0)) rfl rfl ?_
            show pm_R _ 177 13 [.ref 41, .int 1, .int a1] [.int 0] _ _
            refine pm_R_ret pm_M177 (r := some (.int 0)) rfl rfl ?_
            show pm_R _ 200 15 [.ref 41, .int a0, .int a1] [.int 0] _ _
            refine pm_R_br pm_M200 (pc_q := 18) (st_q := []) rfl rfl ?_
            refine pm_R_op pm_M200 (pc_q := 19) (st_q := [.int 0]) rfl rfl rfl ?_
            refine pm_R_ret pm_M200 (r := some (.int 0)) rfl rfl ?_
            show pm_R _ 223 21 [.ref 41, .int a0, .int a1, .int a2] [.int 0] _ _
            refine pm_R_br pm_M223 (pc_q := 24) (st_q := []) rfl rfl ?_
            refine pm_R_ldc2 pm_M223 (pc_q := 27) rfl rfl rfl ?_
            exact pm_R_ret pm_M223 (r := some (.long (-1))) rfl rfl (K (-1) m4 w h1 T2 F6 W9)
          · have B39 : sf_B 0 2147483647 a1 := sf_leR (Int32.not_lt.mp c37) sf_k0 (sf_any a1)
            refine pm_R_lo pm_M174 (pc_q := 6) rfl rfl rfl ?_
            refine pm_R_lo pm_M174 (pc_q := 7) rfl rfl rfl ?_
            refine pm_R_icmp pm_M174 (t := 14) (pc_q := 10) rfl rfl rfl (fun c40 => ?_) (fun c40 => ?_)
            · skip
              refine pm_R_op pm_M174 (pc_q := 15) (st_q := [.int 0]) rfl rfl rfl ?_
              refine pm_R_ret pm_M174 (r := some (.int 0)) rfl rfl ?_
              show pm_R _ 177 13 [.ref 41, .int 1, .int a1] [.int 0] _ _
              refine pm_R_ret pm_M177 (r := some (.int 0)) rfl rfl ?_
              show pm_R _ 200 15 [.ref 41, .int a0, .int a1] [.int 0] _ _
              refine pm_R_br pm_M200 (pc_q := 18) (st_q := []) rfl rfl ?_
              refine pm_R_op pm_M200 (pc_q := 19) (st_q := [.int 0]) rfl rfl rfl ?_
              refine pm_R_ret pm_M200 (r := some (.int 0)) rfl rfl ?_
              show pm_R _ 223 21 [.ref 41, .int a0, .int a1, .int a2] [.int 0] _ _
              refine pm_R_br pm_M223 (pc_q := 24) (st_q := []) rfl rfl ?_
              refine pm_R_ldc2 pm_M223 (pc_q := 27) rfl rfl rfl ?_
              exact pm_R_ret pm_M223 (r := some (.long (-1))) rfl rfl (K (-1) m4 w h1 T2 F6 W9)
            · have V41 := rf_V.mk e17 ez32 e35 (Int32.not_lt.mp c40) B39 (by decide)
              have V41 := V41.back F6 (by decide)
              have B42 : sf_B 0 2 a1 := sf_leL (Int32.not_lt.mp c40) B39 B36
              have B43 : sf_B 0 2 z34 := sf_leR (Int32.not_lt.mp c40) B39 B36
              refine pm_R_op pm_M174 (pc_q := 11) (st_q := [.int 1]) rfl rfl rfl ?_
              refine pm_R_br pm_M174 (pc_q := 15) rfl rfl ?_
              refine pm_R_ret pm_M174 (r := some (.int 1)) rfl rfl ?_
              show pm_R _ 177 13 [.ref 41, .int 1, .int a1] [.int 1] _ _
              refine pm_R_ret pm_M177 (r := some (.int 1)) rfl rfl ?_
              show pm_R _ 200 15 [.ref 41, .int a0, .int a1] [.int 1] _ _
              refine pm_R_br pm_M200 (pc_q := 20) (st_q := []) rfl rfl ?_
              refine pm_R_lo pm_M200 (pc_q := 21) rfl rfl rfl ?_
              refine pm_R_lo pm_M200 (pc_q := 22) rfl rfl rfl ?_
              refine pm_R_lo pm_M200 (pc_q := 23) rfl rfl rfl ?_
              refine pm_R_cv pm_M200 (pc_q := 26) (a := 41) (ra := [.int a1, .int a0]) (rest := []) (ls_q := [.ref 41, .int a0, .int a1, pm_no]) rfl rfl (Or.inl rfl) pm_M201 T2.2.1 rfl (by decide) (Nat.lt_of_lt_of_le (by decide) T2.1) rfl rfl (Nat.le_of_ble_eq_true rfl) rfl rfl ?_
              refine rf_c201 (d := d + 2) T2 B29 B42 (V41.F F6 (by decide)) (fun m46 w47 h48 T49 F50 W51 X52 B53 => ?_)
              have F54 := F6.trans F50 (by decide)
              have W55 : rf_W [0, 23, 24, 26] m m46 := W9.trans W51 (by decide)
              show pm_R _ 200 26 [.ref 41, .int a0, .int a1] [] _ _
              refine pm_R_op pm_M200 (pc_q := 27) (st_q := [.int 1]) rfl rfl rfl ?_
              refine pm_R_ret pm_M200 (r := some (.int 1)) rfl rfl ?_
              show pm_R _ 223 21 [.ref 41, .int a0, .int a1, .int a2] [.int 1] _ _
              refine pm_R_br pm_M223 (pc_q := 28) (st_q := []) rfl rfl ?_
              refine pm_R_lo pm_M223 (pc_q := 29) rfl rfl rfl ?_
              refine pm_R_cv pm_M223 (pc_q := 32) (a := 41) (ra := []) (rest := []) (ls_q := [.ref 41, pm_no, pm_no, pm_no, pm_no]) rfl rfl (Or.inl rfl) pm_M224 T49.2.1 rfl (by decide) (Nat.lt_of_lt_of_le (by decide) T49.1) rfl rfl (Nat.le_of_ble_eq_true rfl) rfl rfl ?_
              refine rf_c224 (d := d + 0) T49  (fun m58 w59 h60 T61 F62 W63 => ?_)
              have F64 := F54.trans F62 (by decide)
              have B65 : sf_B 1 12 (m58 24) := by rw [W63 24 (by decide)]; exact B53
              have W66 : rf_W [0, 23, 24, 26] m m58 := W55.trans W63 (by decide)
              show pm_R _ 223 32 [.ref 41, .int a0, .int a1, .int a2] [] _ _
              refine pm_R_lo pm_M223 (pc_q := 33) rfl rfl rfl ?_
              refine rf_R_get pm_M223 T61 (pc_q := 36) (v := .ref 56) rfl rfl rfl rfl ?_
              refine pm_R_op pm_M223 (pc_q := 37) (st_q := [.int 0, .ref 56]) rfl rfl rfl ?_
              refine pm_R_op pm_M223 (pc_q := 38) (st_q := [.int 0, .int 0, .ref 56]) rfl rfl rfl ?_
              refine pm_R_lo pm_M223 (pc_q := 39) rfl rfl rfl ?_
              refine rf_R_get pm_M223 T61 (pc_q := 42) (v := .int (m58 24)) rfl rfl rfl rfl ?_
              refine pm_R_op pm_M223 (pc_q := 43) (st_q := [.int 1, .int (m58 24), .int 0, .int 0, .ref 56]) rfl rfl rfl ?_
              refine sf_R_isub pm_M223 (pc_q := 44) rfl rfl B65 sf_k1 (by decide) (by decide) (fun z67 e68 B69 => ?_)
              refine pm_R_lo pm_M223 (pc_q := 45) rfl rfl rfl ?_
              refine pm_R_cs pm_M223 (pc_q := 48) (ra := [.int a2, .int z67, .int 0, .int 0]) (rest := [.ref 56]) (ls_q := [.int 0, .int 0, .int z67, .int a2]) rfl rfl (Or.inl rfl) pm_M225 rfl rfl (Nat.le_of_ble_eq_true rfl) rfl rfl ?_
              refine pm_R_op pm_M225 (pc_q := 2) (st_q := [.int 50]) rfl rfl rfl ?_
              refine pm_R_lo pm_M225 (pc_q := 3) rfl rfl rfl ?_
              refine pm_R_lo pm_M225 (pc_q := 4) rfl rfl rfl ?_
              refine pm_R_lo pm_M225 (pc_q := 5) rfl rfl rfl ?_
              refine pm_R_cs pm_M225 (pc_q := 8) (ra := [.int z67, .int 0, .int 0]) (rest := [.int 50]) (ls_q := [.int 0, .int 0, .int z67]) rfl rfl (Or.inl rfl) pm_M207 rfl rfl (Nat.le_of_ble_eq_true rfl) rfl rfl ?_
              refine pm_R_op pm_M207 (pc_q := 3) (st_q := [.int 144]) rfl rfl rfl ?_
              refine pm_R_lo pm_M207 (pc_q := 4) rfl rfl rfl ?_
              refine pm_R_op pm_M207 (pc_q := 5) (st_q := [.int 0]) rfl rfl rfl ?_
              refine pm_R_op pm_M207 (pc_q := 7) (st_q := [.int 12, .int 0]) rfl rfl rfl ?_
              refine pm_R_lo pm_M207 (pc_q := 8) rfl rfl rfl ?_
              refine pm_R_op pm_M207 (pc_q := 9) (st_q := [.int 0, .int 0]) rfl rfl rfl ?_
              refine pm_R_op pm_M207 (pc_q := 10) (st_q := [.int 0]) rfl rfl rfl ?_
              refine pm_R_lo pm_M207 (pc_q := 11) rfl rfl rfl ?_
              refine sf_R_iadd pm_M207 (pc_q := 12) rfl rfl sf_k0 B69 (by decide) (by decide) (fun z70 e71 B72 => ?_)
              refine pm_R_ret pm_M207 (r := some (.int z70)) rfl (pm_ret_i _) ?_
              show pm_R _ 225 8 [.int 0, .int 0, .int z67, .int a2] [.int z70, .int 50] _ _
              refine sf_R_imul pm_M225 (pc_q := 9) rfl rfl sf_k50 B72 (by decide) (by decide) (by decide) (fun z73 e74 B75 => ?_)
              refine pm_R_lo pm_M225 (pc_q := 10) rfl rfl rfl ?_
              refine sf_R_iadd pm_M225 (pc_q := 11) rfl rfl B75 B15 (by decide) (by decide) (fun z76 e77 B78 => ?_)
              refine pm_R_ret pm_M225 (r := some (.int z76)) rfl (pm_ret_i _) ?_
              show pm_R _ 223 48 [.ref 41, .int a0, .int a1, .int a2] [.int z76, .ref 56] _ _
              obtain ⟨f79, e80⟩ := T61.2.2.2.1 56 (by decide) (by decide)
              refine rf_R_lld pm_M223 T61 (pc_q := 49) rfl e80 (by decide) (by decide) (sf_in B78 (by decide) (by decide)) rfl (fun z82 ez83 => ?_)
              exact pm_R_ret pm_M223 (r := some (.long z82)) rfl rfl (K z82 m58 w59 h60 T61 F64 W66)

set_option maxRecDepth 100000 in
set_option maxHeartbeats 4000000 in
/-- SilentTableModel.could -/
theorem rf_c233 {d : Nat} {m : Nat → Int32} {w : Int64} {h : pm_H} {Q : Option Value → pm_H → Prop} {a0 : Int32} {a1 : Int32} {a2 : Int32} {a3 : Int32} (T : rf_T m w h)  (K : ∀ (r : Int32) (m_q : Nat → Int32) (w_q : Int64) (h_q : pm_H), rf_T m_q w_q h_q → rf_G [41, 53, 54] h h_q → rf_W [0, 23, 24, 26] m m_q → sf_B (-2) 50 r → Q (some (.int r)) h_q) : pm_R (d + 7) 233 0 [.ref 41, .int a0, .int a1, .int a2, .int a3] [] h Q := by
  refine pm_R_lo pm_M233 (pc_q := 1) rfl rfl rfl ?_
  refine pm_R_op pm_M233 (pc_q := 2) (st_q := [.int 0, .ref 41]) rfl rfl rfl ?_
  refine rf_R_put pm_M233 T (pc_q := 5) rfl rfl rfl (by decide) rfl rfl sf_k0 rfl rfl (fun h1 m4 em5 T2 F3 => ?_)
  have F6 := (rf_G.refl [41, 53, 54] h).trans F3 (by decide)
  have B7 : sf_B 0 0 (m4 0) := by rw [em5]; exact sf_k0
  have W9 : rf_W [0, 23, 24, 26] m m4 := by rw [em5]; exact (rf_W.refl [0, 23, 24, 26] m).put (by decide)
  refine pm_R_lo pm_M233 (pc_q := 6) rfl rfl rfl ?_
  refine pm_R_op pm_M233 (pc_q := 7) (st_q := [.int 0, .int a2]) rfl rfl rfl ?_
  refine pm_R_op pm_M233 (pc_q := 9) (st_q := [.int 9, .int 0, .int a2]) rfl rfl rfl ?_
  refine pm_R_cs pm_M233 (pc_q := 12) (ra := [.int 9, .int 0, .int a2]) (rest := []) (ls_q := [.int a2, .int 0, .int 9]) rfl rfl (Or.inl rfl) pm_M174 rfl rfl (Nat.le_of_ble_eq_true rfl) rfl rfl ?_
  refine pm_R_lo pm_M174 (pc_q := 1) rfl rfl rfl ?_
  refine pm_R_lo pm_M174 (pc_q := 2) rfl rfl rfl ?_
  refine pm_R_icmp pm_M174 (t := 14) (pc_q := 5) rfl rfl rfl (fun c10 => ?_) (fun c10 => ?_)
  · have B11 : sf_B (-2147483648) (-1) a2 := sf_ltL c10 (sf_any a2) sf_k0
    refine pm_R_op pm_M174 (pc_q := 15) (st_q := [.int 0]) rfl rfl rfl ?_
    refine pm_R_ret pm_M174 (r := some (.int 0)) rfl rfl ?_
    show pm_R _ 233 12 [.ref 41, .int a0, .int a1, .int a2, .int a3] [.int 0] _ _
    refine pm_R_br pm_M233 (pc_q := 37) (st_q := []) rfl rfl ?_
    refine pm_R_op pm_M233 (pc_q := 39) (st_q := [.int (-2)]) rfl rfl rfl ?_
    exact pm_R_ret pm_M233 (r := some (.int (-2))) rfl rfl (K (-2) m4 w h1 T2 F6 W9 (sf_weak sf_kn2 (by decide) (by decide)))
  · have B12 : sf_B 0 2147483647 a2 := sf_leR (Int32.not_lt.mp c10) sf_k0 (sf_any a2)
    refine pm_R_lo pm_M174 (pc_q := 6) rfl rfl rfl ?_
    refine pm_R_lo pm_M174 (pc_q := 7) rfl rfl rfl ?_
    refine pm_R_icmp pm_M174 (t := 14) (pc_q := 10) rfl rfl rfl (fun c13 => ?_) (fun c13 => ?_)
    · have B14 : sf_B 10 2147483647 a2 := sf_ltR c13 sf_k9 B12
      refine pm_R_op pm_M174 (pc_q := 15) (st_q := [.int 0]) rfl rfl rfl ?_
      refine pm_R_ret pm_M174 (r := some (.int 0)) rfl rfl ?_
      show pm_R _ 233 12 [.ref 41, .int a0, .int a1, .int a2, .int a3] [.int 0] _ _
      refine pm_R_br pm_M233 (pc_q := 37) (st_q := []) rfl rfl ?_
      refine pm_R_op pm_M233 (pc_q := 39) (st_q := [.int (-2)]) rfl rfl rfl ?_
      exact pm_R_ret pm_M233 (r := some (.int (-2))) rfl rfl (K (-2) m4 w h1 T2 F6 W9 (sf_weak sf_kn2 (by decide) (by decide)))
    · have B15 : sf_B 0 9 a2 := sf_leL (Int32.not_lt.mp c13) B12 sf_k9
      refine pm_R_op pm_M174 (pc_q := 11) (st_q := [.int 1]) rfl rfl rfl ?_
      refine pm_R_br pm_M174 (pc_q := 15) rfl rfl ?_
      refine pm_R_ret pm_M174 (r := some (.int 1)) rfl rfl ?_
      show pm_R _ 233 12 [.ref 41, .int a0, .int a1, .int a2, .int a3] [.int 1] _ _
      refine pm_R_br pm_M233 (pc_q := 15) (st_q := []) rfl rfl ?_
      refine pm_R_lo pm_M233 (pc_q := 16) rfl rfl rfl ?_
      refine pm_R_lo pm_M233 (pc_q := 17) rfl rfl rfl ?_
      refine pm_R_lo pm_M233 (pc_q := 18) rfl rfl rfl ?_
      refine pm_R_cv pm_M233 (pc_q := 21) (a := 41) (ra := [.int a1, .int a0]) (rest := []) (ls_q := [.ref 41, .int a0, .int a1]) rfl rfl (Or.inl rfl) pm_M200 T2.2.1 rfl (by decide) (Nat.lt_of_lt_of_le (by decide) T2.1) rfl rfl (Nat.le_of_ble_eq_true rfl) rfl rfl ?_
      refine pm_R_lo pm_M200 (pc_q := 1) rfl rfl rfl ?_
      refine pm_R_op pm_M200 (pc_q := 2) (st_q := [.int 0, .ref 41]) rfl rfl rfl ?_
      refine pm_R_lo pm_M200 (pc_q := 3) rfl rfl rfl ?_
      refine pm_R_cv pm_M200 (pc_q := 6) (a := 41) (ra := [.int a0, .int 0]) (rest := []) (ls_q := [.ref 41, .int 0, .int a0]) rfl rfl (Or.inl rfl) pm_M177 T2.2.1 rfl (by decide) (Nat.lt_of_lt_of_le (by decide) T2.1) rfl rfl (Nat.le_of_ble_eq_true rfl) rfl rfl ?_
      refine pm_R_lo pm_M177 (pc_q := 1) rfl rfl rfl ?_
      refine pm_R_op pm_M177 (pc_q := 2) (st_q := [.int 0, .int a0]) rfl rfl rfl ?_
      refine pm_R_lo pm_M177 (pc_q := 3) rfl rfl rfl ?_
      refine rf_R_get pm_M177 T2 (pc_q := 6) (v := .ref 46) rfl rfl rfl rfl ?_
      refine pm_R_lo pm_M177 (pc_q := 7) rfl rfl rfl ?_
      obtain ⟨f16, e17, b18⟩ := T2.2.2.2.1 46 (by decide) (by decide)
      refine rf_R_ild pm_M177 T2 (pc_q := 8) rfl e17 (by decide) rfl rfl (fun z19 ez20 => ?_)
      have B21 : sf_B 0 2 z19 := ez20 ▸ (b18 0)
      refine pm_R_op pm_M177 (pc_q := 9) (st_q := [.int 1, .int z19, .int 0, .int a0]) rfl rfl rfl ?_
      refine sf_R_isub pm_M177 (pc_q := 10) rfl rfl B21 sf_k1 (by decide) (by decide) (fun z22 e23 B24 => ?_)
      refine pm_R_cs pm_M177 (pc_q := 13) (ra := [.int z22, .int 0, .int a0]) (rest := []) (ls_q := [.int a0, .int 0, .int z22]) rfl rfl (Or.inl rfl) pm_M174 rfl rfl (Nat.le_of_ble_eq_true rfl) rfl rfl ?_
      refine pm_R_lo pm_M174 (pc_q := 1) rfl rfl rfl ?_
      refine pm_R_lo pm_M174 (pc_q := 2) rfl rfl rfl ?_
      refine pm_R_icmp pm_M174 (t := 14) (pc_q := 5) rfl rfl rfl (fun c25 => ?_) (fun c25 => ?_)
      · have B26 : sf_B (-2147483648) (-1) a0 := sf_ltL c25 (sf_any a0) sf_k0
        refine pm_R_op pm_M174 (pc_q := 15) (st_q := [.int 0]) rfl rfl rfl ?_
        refine pm_R_ret pm_M174 (r := some (.int 0)) rfl rfl ?_
        show pm_R _ 177 13 [.ref 41, .int 0, .int a0] [.int 0] _ _
        refine pm_R_ret pm_M177 (r := some (.int 0)) rfl rfl ?_
        show pm_R _ 200 6 [.ref 41, .int a0, .int a1] [.int 0] _ _
        refine pm_R_br pm_M200 (pc_q := 18) (st_q := []) rfl rfl ?_
        refine pm_R_op pm_M200 (pc_q := 19) (st_q := [.int 0]) rfl rfl rfl ?_
        refine pm_R_ret pm_M200 (r := some (.int 0)) rfl rfl ?_
        show pm_R _ 233 21 [.ref 41, .int a0, .int a1, .int a2, .int a3] [.int 0] _ _
        refine pm_R_br pm_M233 (pc_q := 37) (st_q := []) rfl rfl ?_
        refine pm_R_op pm_M233 (pc_q := 39) (st_q := [.int (-2)]) rfl rfl rfl ?_
        exact pm_R_ret pm_M233 (r := some (.int (-2))) rfl rfl (K (-2) m4 w h1 T2 F6 W9 (sf_weak sf_kn2 (by decide) (by decide)))
      · have B27 : sf_B 0 2147483647 a0 := sf_leR (Int32.not_lt.mp c25) sf_k0 (sf_any a0)
        refine pm_R_lo pm_M174 (pc_q := 6) rfl rfl rfl ?_
        refine pm_R_lo pm_M174 (pc_q := 7) rfl rfl rfl ?_
        refine pm_R_icmp pm_M174 (t := 14) (pc_q := 10) rfl rfl rfl (fun c28 => ?_) (fun c28 => ?_)
        · skip
          refine pm_R_op pm_M174 (pc_q := 15) (st_q := [.int 0]) rfl rfl rfl ?_
          refine pm_R_ret pm_M174 (r := some (.int 0)) rfl rfl ?_
          show pm_R _ 177 13 [.ref 41, .int 0, .int a0] [.int 0] _ _
          refine pm_R_ret pm_M177 (r := some (.int 0)) rfl rfl ?_
          show pm_R _ 200 6 [.ref 41, .int a0, .int a1] [.int 0] _ _
          refine pm_R_br pm_M200 (pc_q := 18) (st_q := []) rfl rfl ?_
          refine pm_R_op pm_M200 (pc_q := 19) (st_q := [.int 0]) rfl rfl rfl ?_
          refine pm_R_ret pm_M200 (r := some (.int 0)) rfl rfl ?_
          show pm_R _ 233 21 [.ref 41, .int a0, .int a1, .int a2, .int a3] [.int 0] _ _
          refine pm_R_br pm_M233 (pc_q := 37) (st_q := []) rfl rfl ?_
          refine pm_R_op pm_M233 (pc_q := 39) (st_q := [.int (-2)]) rfl rfl rfl ?_
          exact pm_R_ret pm_M233 (r := some (.int (-2))) rfl rfl (K (-2) m4 w h1 T2 F6 W9 (sf_weak sf_kn2 (by decide) (by decide)))
        · have B29 : sf_B 0 1 a0 := sf_leL (Int32.not_lt.mp c28) B27 B24
          have B30 : sf_B 0 1 z22 := sf_leR (Int32.not_lt.mp c28) B27 B24
          refine pm_R_op pm_M174 (pc_q := 11) (st_q := [.int 1]) rfl rfl rfl ?_
          refine pm_R_br pm_M174 (pc_q := 15) rfl rfl ?_
          refine pm_R_ret pm_M174 (r := some (.int 1)) rfl rfl ?_
          show pm_R _ 177 13 [.ref 41, .int 0, .int a0] [.int 1] _ _
          refine pm_R_ret pm_M177 (r := some (.int 1)) rfl rfl ?_
          show pm_R _ 200 6 [.ref 41, .int a0, .int a1] [.int 1] _ _
          refine pm_R_br pm_M200 (pc_q := 9) (st_q := []) rfl rfl ?_
          refine pm_R_lo pm_M200 (pc_q := 10) rfl rfl rfl ?_
          refine pm_R_op pm_M200 (pc_q := 11) (st_q := [.int 1, .ref 41]) rfl rfl rfl ?_
          refine pm_R_lo pm_M200 (pc_q := 12) rfl rfl rfl ?_
          refine pm_R_cv pm_M200 (pc_q := 15) (a := 41) (ra := [.int a1, .int 1]) (rest := []) (ls_q := [.ref 41, .int 1, .int a1]) rfl rfl (Or.inl rfl) pm_M177 T2.2.1 rfl (by decide) (Nat.lt_of_lt_of_le (by decide) T2.1) rfl rfl (Nat.le_of_ble_eq_true rfl) rfl rfl ?_
          refine pm_R_lo pm_M177 (pc_q := 1) rfl rfl rfl ?_
          refine pm_R_op pm_M177 (pc_q := 2) (st_q := [.int 0, .int a1]) rfl rfl rfl ?_
          refine pm_R_lo pm_M177 (pc_q := 3) rfl rfl rfl ?_
          refine rf_R_get pm_M177 T2 (pc_q := 6) (v := .ref 46) rfl rfl rfl rfl ?_
          refine pm_R_lo pm_M177 (pc_q := 7) rfl rfl rfl ?_
          refine rf_R_ild pm_M177 T2 (pc_q := 8) rfl e17 (by decide) rfl rfl (fun z31 ez32 => ?_)
          have B33 : sf_B 0 3 z31 := ez32 ▸ (b18 1)
          refine pm_R_op pm_M177 (pc_q := 9) (st_q := [.int 1, .int z31, .int 0, .int a1]) rfl rfl rfl ?_
          refine sf_R_isub pm_M177 (pc_q := 10) rfl rfl B33 sf_k1 (by decide) (by decide) (fun z34 e35 B36 => ?_)
          refine pm_R_cs pm_M177 (pc_q := 13) (ra := [.int z34, .int 0, .int a1]) (rest := []) (ls_q := [.int a1, .int 0, .int z34]) rfl rfl (Or.inl rfl) pm_M174 rfl rfl (Nat.le_of_ble_eq_true rfl) rfl rfl ?_
          refine pm_R_lo pm_M174 (pc_q := 1) rfl rfl rfl ?_
          refine pm_R_lo pm_M174 (pc_q := 2) rfl rfl rfl ?_
          refine pm_R_icmp pm_M174 (t := 14) (pc_q := 5) rfl rfl rfl (fun c37 => ?_) (fun c37 => ?_)
          · have B38 : sf_B (-2147483648) (-1) a1 := sf_ltL c37 (sf_any a1) sf_k0
            refine pm_R_op pm_M174 (pc_q := 15) (st_q := [.int 0]) rfl rfl rfl ?_
            refine pm_R_ret pm_M174 (r := some (.int 0)) rfl rfl ?_
            show pm_R _ 177 13 [.ref 41, .int 1, .int a1] [.int 0] _ _
            refine pm_R_ret pm_M177 (r := some (.int 0)) rfl rfl ?_
            show pm_R _ 200 15 [.ref 41, .int a0, .int a1] [.int 0] _ _
            refine pm_R_br pm_M200 (pc_q := 18) (st_q := []) rfl rfl ?_
            refine pm_R_op pm_M200 (pc_q := 19) (st_q := [.int 0]) rfl rfl rfl ?_
            refine pm_R_ret pm_M200 (r := some (.int 0)) rfl rfl ?_
            show pm_R _ 233 21 [.ref 41, .int a0, .int a1, .int a2, .int a3] [.int 0] _ _
            refine pm_R_br pm_M233 (pc_q := 37) (st_q := []) rfl rfl ?_
            refine pm_R_op pm_M233 (pc_q := 39) (st_q := [.int (-2)]) rfl rfl rfl ?_
            exact pm_R_ret pm_M233 (r := some (.int (-2))) rfl rfl (K (-2) m4 w h1 T2 F6 W9 (sf_weak sf_kn2 (by decide) (by decide)))
          · have B39 : sf_B 0 2147483647 a1 := sf_leR (Int32.not_lt.mp c37) sf_k0 (sf_any a1)
            refine pm_R_lo pm_M174 (pc_q := 6) rfl rfl rfl ?_
            refine pm_R_lo pm_M174 (pc_q := 7) rfl rfl rfl ?_
            refine pm_R_icmp pm_M174 (t := 14) (pc_q := 10) rfl rfl rfl (fun c40 => ?_) (fun c40 => ?_)
            · skip
              refine pm_R_op pm_M174 (pc_q := 15) (st_q := [.int 0]) rfl rfl rfl ?_
              refine pm_R_ret pm_M174 (r := some (.int 0)) rfl rfl ?_
              show pm_R _ 177 13 [.ref 41, .int 1, .int a1] [.int 0] _ _
              refine pm_R_ret pm_M177 (r := some (.int 0)) rfl rfl ?_
              show pm_R _ 200 15 [.ref 41, .int a0, .int a1] [.int 0] _ _
              refine pm_R_br pm_M200 (pc_q := 18) (st_q := []) rfl rfl ?_
              refine pm_R_op pm_M200 (pc_q := 19) (st_q := [.int 0]) rfl rfl rfl ?_
              refine pm_R_ret pm_M200 (r := some (.int 0)) rfl rfl ?_
              show pm_R _ 233 21 [.ref 41, .int a0, .int a1, .int a2, .int a3] [.int 0] _ _
              refine pm_R_br pm_M233 (pc_q := 37) (st_q := []) rfl rfl ?_
              refine pm_R_op pm_M233 (pc_q := 39) (st_q := [.int (-2)]) rfl rfl rfl ?_
              exact pm_R_ret pm_M233 (r := some (.int (-2))) rfl rfl (K (-2) m4 w h1 T2 F6 W9 (sf_weak sf_kn2 (by decide) (by decide)))
            · have V41 := rf_V.mk e17 ez32 e35 (Int32.not_lt.mp c40) B39 (by decide)
              have V41 := V41.back F6 (by decide)
              have B42 : sf_B 0 2 a1 := sf_leL (Int32.not_lt.mp c40) B39 B36
              have B43 : sf_B 0 2 z34 := sf_leR (Int32.not_lt.mp c40) B39 B36
              refine pm_R_op pm_M174 (pc_q := 11) (st_q := [.int 1]) rfl rfl rfl ?_
              refine pm_R_br pm_M174 (pc_q := 15) rfl rfl ?_
              refine pm_R_ret pm_M174 (r := some (.int 1)) rfl rfl ?_
              show pm_R _ 177 13 [.ref 41, .int 1, .int a1] [.int 1] _ _
              refine pm_R_ret pm_M177 (r := some (.int 1)) rfl rfl ?_
              show pm_R _ 200 15 [.ref 41, .int a0, .int a1] [.int 1] _ _
              refine pm_R_br pm_M200 (pc_q := 20) (st_q := []) rfl rfl ?_
              refine pm_R_lo pm_M200 (pc_q := 21) rfl rfl rfl ?_
              refine pm_R_lo pm_M200 (pc_q := 22) rfl rfl rfl ?_
              refine pm_R_lo pm_M200 (pc_q := 23) rfl rfl rfl ?_
              refine pm_R_cv pm_M200 (pc_q := 26) (a := 41) (ra := [.int a1, .int a0]) (rest := []) (ls_q := [.ref 41, .int a0, .int a1, pm_no]) rfl rfl (Or.inl rfl) pm_M201 T2.2.1 rfl (by decide) (Nat.lt_of_lt_of_le (by decide) T2.1) rfl rfl (Nat.le_of_ble_eq_true rfl) rfl rfl ?_
              refine rf_c201 (d := d + 5) T2 B29 B42 (V41.F F6 (by decide)) (fun m46 w47 h48 T49 F50 W51 X52 B53 => ?_)
              have F54 := F6.trans F50 (by decide)
              have W55 : rf_W [0, 23, 24, 26] m m46 := W9.trans W51 (by decide)
              show pm_R _ 200 26 [.ref 41, .int a0, .int a1] [] _ _
              refine pm_R_op pm_M200 (pc_q := 27) (st_q := [.int 1]) rfl rfl rfl ?_
              refine pm_R_ret pm_M200 (r := some (.int 1)) rfl rfl ?_
              show pm_R _ 233 21 [.ref 41, .int a0, .int a1, .int a2, .int a3] [.int 1] _ _
              refine pm_R_br pm_M233 (pc_q := 24) (st_q := []) rfl rfl ?_
              refine pm_R_lo pm_M233 (pc_q := 25) rfl rfl rfl ?_
              refine pm_R_lo pm_M233 (pc_q := 26) rfl rfl rfl ?_
              refine pm_R_cv pm_M233 (pc_q := 29) (a := 41) (ra := [.int a2]) (rest := []) (ls_q := [.ref 41, .int a2]) rfl rfl (Or.inl rfl) pm_M234 T49.2.1 rfl (by decide) (Nat.lt_of_lt_of_le (by decide) T49.1) rfl rfl (Nat.le_of_ble_eq_true rfl) rfl rfl ?_
              refine pm_R_lo pm_M234 (pc_q := 1) rfl rfl rfl ?_
              refine pm_R_lo pm_M234 (pc_q := 2) rfl rfl rfl ?_
              refine pm_R_cv pm_M234 (pc_q := 5) (a := 41) (ra := [.int a2]) (rest := []) (ls_q := [.ref 41, .int a2, pm_no, pm_no, pm_no, pm_no]) rfl rfl (Or.inl rfl) pm_M235 T49.2.1 rfl (by decide) (Nat.lt_of_lt_of_le (by decide) T49.1) rfl rfl (Nat.le_of_ble_eq_true rfl) rfl rfl ?_
              refine rf_c235 (d := d + 4) T49 (sf_weak B15 (by decide) (by decide)) (fun m58 w59 h60 T61 F62 W63 => ?_)
              have F64 := F54.trans F62 (by decide)
              have B65 : sf_B 1 12 (m58 24) := by rw [W63 24 (by decide)]; exact B53
              have W66 : rf_W [0, 23, 24, 26] m m58 := W55.trans W63 (by decide)
              show pm_R _ 234 5 [.ref 41, .int a2] [] _ _
              refine pm_R_lo pm_M234 (pc_q := 6) rfl rfl rfl ?_
              refine pm_R_cv pm_M234 (pc_q := 9) (a := 41) (ra := []) (rest := []) (ls_q := [.ref 41]) rfl rfl (Or.inl rfl) pm_M215 T61.2.1 rfl (by decide) (Nat.lt_of_lt_of_le (by decide) T61.1) rfl rfl (Nat.le_of_ble_eq_true rfl) rfl rfl ?_
              refine rf_c215 (d := d + 0) T61 B65 (fun r67 m69 w70 h71 T72 F73 W74 => ?_)
              have F75 := F64.trans F73 (by decide)
              have B76 : sf_B 1 12 (m69 24) := by rw [W74 24 (by decide)]; exact B65
              have W77 : rf_W [0, 23, 24, 26] m m69 := W66.trans W74 (by decide)
              show pm_R _ 234 9 [.ref 41, .int a2] [.long r67] _ _
              refine pm_R_ret pm_M234 (r := some (.long r67)) rfl rfl ?_
              show pm_R _ 233 29 [.ref 41, .int a0, .int a1, .int a2, .int a3] [.long r67] _ _
              refine pm_R_lo pm_M233 (pc_q := 31) rfl rfl rfl ?_
              refine pm_R_cs pm_M233 (pc_q := 34) (ra := [.int a3, .long r67]) (rest := []) (ls_q := [.long r67, pm_no, .int a3, pm_no, pm_no]) rfl rfl (Or.inl rfl) pm_M221 rfl rfl (Nat.le_of_ble_eq_true rfl) rfl rfl ?_
              refine rf_c221 (d := d + 4)  (fun r78 B79 => ?_)
              show pm_R _ 233 34 [.ref 41, .int a0, .int a1, .int a2, .int a3] [.int r78] _ _
              refine pm_R_br pm_M233 (pc_q := 39) rfl rfl ?_
              exact pm_R_ret pm_M233 (r := some (.int r78)) rfl (pm_ret_i _) (K r78 m69 w70 h71 T72 F75 W77 B79)

set_option maxRecDepth 100000 in
set_option maxHeartbeats 4000000 in
/-- SilentTableModel.worn -/
theorem rf_c237 {d : Nat} {m : Nat → Int32} {w : Int64} {h : pm_H} {Q : Option Value → pm_H → Prop} {a0 : Int32} {a1 : Int32} {a2 : Int32} (T : rf_T m w h)  (K : ∀ (r : Int64) (m_q : Nat → Int32) (w_q : Int64) (h_q : pm_H), rf_T m_q w_q h_q → rf_G [41, 53] h h_q → rf_W [0, 23, 24, 26] m m_q → Q (some (.long r)) h_q) : pm_R (d + 3) 237 0 [.ref 41, .int a0, .int a1, .int a2, pm_no, pm_no, pm_no] [] h Q := by
  refine pm_R_lo pm_M237 (pc_q := 1) rfl rfl rfl ?_
  refine pm_R_op pm_M237 (pc_q := 2) (st_q := [.int 0, .ref 41]) rfl rfl rfl ?_
  refine rf_R_put pm_M237 T (pc_q := 5) rfl rfl rfl (by decide) rfl rfl sf_k0 rfl rfl (fun h1 m4 em5 T2 F3 => ?_)
  have F6 := (rf_G.refl [41, 53] h).trans F3 (by decide)
  have B7 : sf_B 0 0 (m4 0) := by rw [em5]; exact sf_k0
  have W9 : rf_W [0, 23, 24, 26] m m4 := by rw [em5]; exact (rf_W.refl [0, 23, 24, 26] m).put (by decide)
  refine pm_R_lo pm_M237 (pc_q := 6) rfl rfl rfl ?_
  refine pm_R_op pm_M237 (pc_q := 7) (st_q := [.int 0, .int a2]) rfl rfl rfl ?_
  refine pm_R_op pm_M237 (pc_q := 9) (st_q := [.int 9, .int 0, .int a2]) rfl rfl rfl ?_
  refine pm_R_cs pm_M237 (pc_q := 12) (ra := [.int 9, .int 0, .int a2]) (rest := []) (ls_q := [.int a2, .int 0, .int 9]) rfl rfl (Or.inl rfl) pm_M174 rfl rfl (Nat.le_of_ble_eq_true rfl) rfl rfl ?_
  refine pm_R_lo pm_M174 (pc_q := 1) rfl rfl rfl ?_
  refine pm_R_lo pm_M174 (pc_q := 2) rfl rfl rfl ?_
  refine pm_R_icmp pm_M174 (t := 14) (pc_q := 5) rfl rfl rfl (fun c10 => ?_) (fun c10 => ?_)
  · have B11 : sf_B (-2147483648) (-1) a2 := sf_ltL c10 (sf_any a2) sf_k0
    refine pm_R_op pm_M174 (pc_q := 15) (st_q := [.int 0]) rfl rfl rfl ?_
    refine pm_R_ret pm_M174 (r := some (.int 0)) rfl rfl ?_
    show pm_R _ 237 12 [.ref 41, .int a0, .int a1, .int a2, pm_no, pm_no, pm_no] [.int 0] _ _
    refine pm_R_br pm_M237 (pc_q := 24) (st_q := []) rfl rfl ?_
    refine pm_R_ldc2 pm_M237 (pc_q := 27) rfl rfl rfl ?_
    exact pm_R_ret pm_M237 (r := some (.long (-1))) rfl rfl (K (-1) m4 w h1 T2 F6 W9)
  · have B12 : sf_B 0 2147483647 a2 := sf_leR (Int32.not_lt.mp c10) sf_k0 (sf_any a2)
    refine pm_R_lo pm_M174 (pc_q := 6) rfl rfl rfl ?_
    refine pm_R_lo pm_M174 (pc_q := 7) rfl rfl rfl ?_
    refine pm_R_icmp pm_M174 (t := 14) (pc_q := 10) rfl rfl rfl (fun c13 => ?_) (fun c13 => ?_)
    · have B14 : sf_B 10 2147483647 a2 := sf_ltR c13 sf_k9 B12
      refine pm_R_op pm_M174 (pc_q := 15) (st_q := [.int 0]) rfl rfl rfl ?_
      refine pm_R_ret pm_M174 (r := some (.int 0)) rfl rfl ?_
      show pm_R _ 237 12 [.ref 41, .int a0, .int a1, .int a2, pm_no, pm_no, pm_no] [.int 0] _ _
      refine pm_R_br pm_M237 (pc_q := 24) (st_q := []) rfl rfl ?_
      refine pm_R_ldc2 pm_M237 (pc_q := 27) rfl rfl rfl ?_
      exact pm_R_ret pm_M237 (r := some (.long (-1))) rfl rfl (K (-1) m4 w h1 T2 F6 W9)
    · have B15 : sf_B 0 9 a2 := sf_leL (Int32.not_lt.mp c13) B12 sf_k9
      refine pm_R_op pm_M174 (pc_q := 11) (st_q := [.int 1]) rfl rfl rfl ?_
      refine pm_R_br pm_M174 (pc_q := 15) rfl rfl ?_
      refine pm_R_ret pm_M174 (r := some (.int 1)) rfl rfl ?_
      show pm_R _ 237 12 [.ref 41, .int a0, .int a1, .int a2, pm_no, pm_no, pm_no] [.int 1] _ _
      refine pm_R_br pm_M237 (pc_q := 15) (st_q := []) rfl rfl ?_
      refine pm_R_lo pm_M237 (pc_q := 16) rfl rfl rfl ?_
      refine pm_R_lo pm_M237 (pc_q := 17) rfl rfl rfl ?_
      refine pm_R_lo pm_M237 (pc_q := 18) rfl rfl rfl ?_
      refine pm_R_cv pm_M237 (pc_q := 21) (a := 41) (ra := [.int a1, .int a0]) (rest := []) (ls_q := [.ref 41, .int a0, .int a1]) rfl rfl (Or.inl rfl) pm_M200 T2.2.1 rfl (by decide) (Nat.lt_of_lt_of_le (by decide) T2.1) rfl rfl (Nat.le_of_ble_eq_true rfl) rfl rfl ?_
      refine pm_R_lo pm_M200 (pc_q := 1) rfl rfl rfl ?_
      refine pm_R_op pm_M200 (pc_q := 2) (st_q := [.int 0, .ref 41]) rfl rfl rfl ?_
      refine pm_R_lo pm_M200 (pc_q := 3) rfl rfl rfl ?_
      refine pm_R_cv pm_M200 (pc_q := 6) (a := 41) (ra := [.int a0, .int 0]) (rest := []) (ls_q := [.ref 41, .int 0, .int a0]) rfl rfl (Or.inl rfl) pm_M177 T2.2.1 rfl (by decide) (Nat.lt_of_lt_of_le (by decide) T2.1) rfl rfl (Nat.le_of_ble_eq_true rfl) rfl rfl ?_
      refine pm_R_lo pm_M177 (pc_q := 1) rfl rfl rfl ?_
      refine pm_R_op pm_M177 (pc_q := 2) (st_q := [.int 0, .int a0]) rfl rfl rfl ?_
      refine pm_R_lo pm_M177 (pc_q := 3) rfl rfl rfl ?_
      refine rf_R_get pm_M177 T2 (pc_q := 6) (v := .ref 46) rfl rfl rfl rfl ?_
      refine pm_R_lo pm_M177 (pc_q := 7) rfl rfl rfl ?_
      obtain ⟨f16, e17, b18⟩ := T2.2.2.2.1 46 (by decide) (by decide)
      refine rf_R_ild pm_M177 T2 (pc_q := 8) rfl e17 (by decide) rfl rfl (fun z19 ez20 => ?_)
      have B21 : sf_B 0 2 z19 := ez20 ▸ (b18 0)
      refine pm_R_op pm_M177 (pc_q := 9) (st_q := [.int 1, .int z19, .int 0, .int a0]) rfl rfl rfl ?_
      refine sf_R_isub pm_M177 (pc_q := 10) rfl rfl B21 sf_k1 (by decide) (by decide) (fun z22 e23 B24 => ?_)
      refine pm_R_cs pm_M177 (pc_q := 13) (ra := [.int z22, .int 0, .int a0]) (rest := []) (ls_q := [.int a0, .int 0, .int z22]) rfl rfl (Or.inl rfl) pm_M174 rfl rfl (Nat.le_of_ble_eq_true rfl) rfl rfl ?_
      refine pm_R_lo pm_M174 (pc_q := 1) rfl rfl rfl ?_
      refine pm_R_lo pm_M174 (pc_q := 2) rfl rfl rfl ?_
      refine pm_R_icmp pm_M174 (t := 14) (pc_q := 5) rfl rfl rfl (fun c25 => ?_) (fun c25 => ?_)
      · have B26 : sf_B (-2147483648) (-1) a0 := sf_ltL c25 (sf_any a0) sf_k0
        refine pm_R_op pm_M174 (pc_q := 15) (st_q := [.int 0]) rfl rfl rfl ?_
        refine pm_R_ret pm_M174 (r := some (.int 0)) rfl rfl ?_
        show pm_R _ 177 13 [.ref 41, .int 0, .int a0] [.int 0] _ _
        refine pm_R_ret pm_M177 (r := some (.int 0)) rfl rfl ?_
        show pm_R _ 200 6 [.ref 41, .int a0, .int a1] [.int 0] _ _
        refine pm_R_br pm_M200 (pc_q := 18) (st_q := []) rfl rfl ?_
        refine pm_R_op pm_M200 (pc_q := 19) (st_q := [.int 0]) rfl rfl rfl ?_
        refine pm_R_ret pm_M200 (r := some (.int 0)) rfl rfl ?_
        show pm_R _ 237 21 [.ref 41, .int a0, .int a1, .int a2, pm_no, pm_no, pm_no] [.int 0] _ _
        refine pm_R_br pm_M237 (pc_q := 24) (st_q := []) rfl rfl ?_
        refine pm_R_ldc2 pm_M237 (pc_q := 27) rfl rfl rfl ?_
        exact pm_R_ret pm_M237 (r := some (.long (-1))) rfl rfl (K (-1) m4 w h1 T2 F6 W9)
      · have B27 : sf_B 0 2147483647 a0 := sf_leR (Int32.not_lt.mp c25) sf_k0 (sf_any a0)
        refine pm_R_lo pm_M174 (pc_q := 6) rfl rfl rfl ?_
        refine pm_R_lo pm_M174 (pc_q := 7) rfl rfl rfl ?_
        refine pm_R_icmp pm_M174 (t := 14) (pc_q := 10) rfl rfl rfl (fun c28 => ?_) (fun c28 => ?_)
        · skip
          refine pm_R_op pm_M174 (pc_q := 15) (st_q := [.int 0]) rfl rfl rfl ?_
          refine pm_R_ret pm_M174 (r := some (.int 0)) rfl rfl ?_
          show pm_R _ 177 13 [.ref 41, .int 0, .int a0] [.int 0] _ _
          refine pm_R_ret pm_M177 (r := some (.int 0)) rfl rfl ?_
          show pm_R _ 200 6 [.ref 41, .int a0, .int a1] [.int 0] _ _
          refine pm_R_br pm_M200 (pc_q := 18) (st_q := []) rfl rfl ?_
          refine pm_R_op pm_M200 (pc_q := 19) (st_q := [.int 0]) rfl rfl rfl ?_
          refine pm_R_ret pm_M200 (r := some (.int 0)) rfl rfl ?_
          show pm_R _ 237 21 [.ref 41, .int a0, .int a1, .int a2, pm_no, pm_no, pm_no] [.int 0] _ _
          refine pm_R_br pm_M237 (pc_q := 24) (st_q := []) rfl rfl ?_
          refine pm_R_ldc2 pm_M237 (pc_q := 27) rfl rfl rfl ?_
          exact pm_R_ret pm_M237 (r := some (.long (-1))) rfl rfl (K (-1) m4 w h1 T2 F6 W9)
        · have B29 : sf_B 0 1 a0 := sf_leL (Int32.not_lt.mp c28) B27 B24
          have B30 : sf_B 0 1 z22 := sf_leR (Int32.not_lt.mp c28) B27 B24
          refine pm_R_op pm_M174 (pc_q := 11) (st_q := [.int 1]) rfl rfl rfl ?_
          refine pm_R_br pm_M174 (pc_q := 15) rfl rfl ?_
          refine pm_R_ret pm_M174 (r := some (.int 1)) rfl rfl ?_
          show pm_R _ 177 13 [.ref 41, .int 0, .int a0] [.int 1] _ _
          refine pm_R_ret pm_M177 (r := some (.int 1)) rfl rfl ?_
          show pm_R _ 200 6 [.ref 41, .int a0, .int a1] [.int 1] _ _
          refine pm_R_br pm_M200 (pc_q := 9) (st_q := []) rfl rfl ?_
          refine pm_R_lo pm_M200 (pc_q := 10) rfl rfl rfl ?_
          refine pm_R_op pm_M200 (pc_q := 11) (st_q := [.int 1, .ref 41]) rfl rfl rfl ?_
          refine pm_R_lo pm_M200 (pc_q := 12) rfl rfl rfl ?_
          refine pm_R_cv pm_M200 (pc_q := 15) (a := 41) (ra := [.int a1, .int 1]) (rest := []) (ls_q := [.ref 41, .int 1, .int a1]) rfl rfl (Or.inl rfl) pm_M177 T2.2.1 rfl (by decide) (Nat.lt_of_lt_of_le (by decide) T2.1) rfl rfl (Nat.le_of_ble_eq_true rfl) rfl rfl ?_
          refine pm_R_lo pm_M177 (pc_q := 1) rfl rfl rfl ?_
          refine pm_R_op pm_M177 (pc_q := 2) (st_q := [.int 0, .int a1]) rfl rfl rfl ?_
          refine pm_R_lo pm_M177 (pc_q := 3) rfl rfl rfl ?_
          refine rf_R_get pm_M177 T2 (pc_q := 6) (v := .ref 46) rfl rfl rfl rfl ?_
          refine pm_R_lo pm_M177 (pc_q := 7) rfl rfl rfl ?_
          refine rf_R_ild pm_M177 T2 (pc_q := 8) rfl e17 (by decide) rfl rfl (fun z31 ez32 => ?_)
          have B33 : sf_B 0 3 z31 := ez32 ▸ (b18 1)
          refine pm_R_op pm_M177 (pc_q := 9) (st_q := [.int 1, .int z31, .int 0, .int a1]) rfl rfl rfl ?_
          refine sf_R_isub pm_M177 (pc_q := 10) rfl rfl B33 sf_k1 (by decide) (by decide) (fun z34 e35 B36 => ?_)
          refine pm_R_cs pm_M177 (pc_q := 13) (ra := [.int z34, .int 0, .int a1]) (rest := []) (ls_q := [.int a1, .int 0, .int z34]) rfl rfl (Or.inl rfl) pm_M174 rfl rfl (Nat.le_of_ble_eq_true rfl) rfl rfl ?_
          refine pm_R_lo pm_M174 (pc_q := 1) rfl rfl rfl ?_
          refine pm_R_lo pm_M174 (pc_q := 2) rfl rfl rfl ?_
          refine pm_R_icmp pm_M174 (t := 14) (pc_q := 5) rfl rfl rfl (fun c37 => ?_) (fun c37 => ?_)
          · have B38 : sf_B (-2147483648) (-1) a1 := sf_ltL c37 (sf_any a1) sf_k0
            refine pm_R_op pm_M174 (pc_q := 15) (st_q := [.int 0]) rfl rfl rfl ?_
            refine pm_R_ret pm_M174 (r := some (.int 0)) rfl rfl ?_
            show pm_R _ 177 13 [.ref 41, .int 1, .int a1] [.int 0] _ _
            refine pm_R_ret pm_M177 (r := some (.int 0)) rfl rfl ?_
            show pm_R _ 200 15 [.ref 41, .int a0, .int a1] [.int 0] _ _
            refine pm_R_br pm_M200 (pc_q := 18) (st_q := []) rfl rfl ?_
            refine pm_R_op pm_M200 (pc_q := 19) (st_q := [.int 0]) rfl rfl rfl ?_
            refine pm_R_ret pm_M200 (r := some (.int 0)) rfl rfl ?_
            show pm_R _ 237 21 [.ref 41, .int a0, .int a1, .int a2, pm_no, pm_no, pm_no] [.int 0] _ _
            refine pm_R_br pm_M237 (pc_q := 24) (st_q := []) rfl rfl ?_
            refine pm_R_ldc2 pm_M237 (pc_q := 27) rfl rfl rfl ?_
            exact pm_R_ret pm_M237 (r := some (.long (-1))) rfl rfl (K (-1) m4 w h1 T2 F6 W9)
          · have B39 : sf_B 0 2147483647 a1 := sf_leR (Int32.not_lt.mp c37) sf_k0 (sf_any a1)
            refine pm_R_lo pm_M174 (pc_q := 6) rfl rfl rfl ?_
            refine pm_R_lo pm_M174 (pc_q := 7) rfl rfl rfl ?_
            refine pm_R_icmp pm_M174 (t := 14) (pc_q := 10) rfl rfl rfl (fun c40 => ?_) (fun c40 => ?_)
            · skip
              refine pm_R_op pm_M174 (pc_q := 15) (st_q := [.int 0]) rfl rfl rfl ?_
              refine pm_R_ret pm_M174 (r := some (.int 0)) rfl rfl ?_
              show pm_R _ 177 13 [.ref 41, .int 1, .int a1] [.int 0] _ _
              refine pm_R_ret pm_M177 (r := some (.int 0)) rfl rfl ?_
              show pm_R _ 200 15 [.ref 41, .int a0, .int a1] [.int 0] _ _
              refine pm_R_br pm_M200 (pc_q := 18) (st_q := []) rfl rfl ?_
              refine pm_R_op pm_M200 (pc_q := 19) (st_q := [.int 0]) rfl rfl rfl ?_
              refine pm_R_ret pm_M200 (r := some (.int 0)) rfl rfl ?_
              show pm_R _ 237 21 [.ref 41, .int a0, .int a1, .int a2, pm_no, pm_no, pm_no] [.int 0] _ _
              refine pm_R_br pm_M237 (pc_q := 24) (st_q := []) rfl rfl ?_
              refine pm_R_ldc2 pm_M237 (pc_q := 27) rfl rfl rfl ?_
              exact pm_R_ret pm_M237 (r := some (.long (-1))) rfl rfl (K (-1) m4 w h1 T2 F6 W9)
            · have V41 := rf_V.mk e17 ez32 e35 (Int32.not_lt.mp c40) B39 (by decide)
              have V41 := V41.back F6 (by decide)
              have B42 : sf_B 0 2 a1 := sf_leL (Int32.not_lt.mp c40) B39 B36
              have B43 : sf_B 0 2 z34 := sf_leR (Int32.not_lt.mp c40) B39 B36
              refine pm_R_op pm_M174 (pc_q := 11) (st_q := [.int 1]) rfl rfl rfl ?_
              refine pm_R_br pm_M174 (pc_q := 15) rfl rfl ?_
              refine pm_R_ret pm_M174 (r := some (.int 1)) rfl rfl ?_
              show pm_R _ 177 13 [.ref 41, .int 1, .int a1] [.int 1] _ _
              refine pm_R_ret pm_M177 (r := some (.int 1)) rfl rfl ?_
              show pm_R _ 200 15 [.ref 41, .int a0, .int a1] [.int 1] _ _
              refine pm_R_br pm_M200 (pc_q := 20) (st_q := []) rfl rfl ?_
              refine pm_R_lo pm_M200 (pc_q := 21) rfl rfl rfl ?_
              refine pm_R_lo pm_M200 (pc_q := 22) rfl rfl rfl ?_
              refine pm_R_lo pm_M200 (pc_q := 23) rfl rfl rfl ?_
              refine pm_R_cv pm_M200 (pc_q := 26) (a := 41) (ra := [.int a1, .int a0]) (rest := []) (ls_q := [.ref 41, .int a0, .int a1, pm_no]) rfl rfl (Or.inl rfl) pm_M201 T2.2.1 rfl (by decide) (Nat.lt_of_lt_of_le (by decide) T2.1) rfl rfl (Nat.le_of_ble_eq_true rfl) rfl rfl ?_
              refine rf_c201 (d := d + 1) T2 B29 B42 (V41.F F6 (by decide)) (fun m46 w47 h48 T49 F50 W51 X52 B53 => ?_)
              have F54 := F6.trans F50 (by decide)
              have W55 : rf_W [0, 23, 24, 26] m m46 := W9.trans W51 (by decide)
              show pm_R _ 200 26 [.ref 41, .int a0, .int a1] [] _ _
              refine pm_R_op pm_M200 (pc_q := 27) (st_q := [.int 1]) rfl rfl rfl ?_
              refine pm_R_ret pm_M200 (r := some (.int 1)) rfl rfl ?_
              show pm_R _ 237 21 [.ref 41, .int a0, .int a1, .int a2, pm_no, pm_no, pm_no] [.int 1] _ _
              refine pm_R_br pm_M237 (pc_q := 28) (st_q := []) rfl rfl ?_
              refine pm_R_lo pm_M237 (pc_q := 29) rfl rfl rfl ?_
              refine pm_R_lo pm_M237 (pc_q := 30) rfl rfl rfl ?_
              refine pm_R_cv pm_M237 (pc_q := 33) (a := 41) (ra := [.int a2]) (rest := []) (ls_q := [.ref 41, .int a2, pm_no, pm_no, pm_no, pm_no]) rfl rfl (Or.inl rfl) pm_M235 T49.2.1 rfl (by decide) (Nat.lt_of_lt_of_le (by decide) T49.1) rfl rfl (Nat.le_of_ble_eq_true rfl) rfl rfl ?_
              refine rf_c235 (d := d + 1) T49 (sf_weak B15 (by decide) (by decide)) (fun m58 w59 h60 T61 F62 W63 => ?_)
              have F64 := F54.trans F62 (by decide)
              have B65 : sf_B 1 12 (m58 24) := by rw [W63 24 (by decide)]; exact B53
              have W66 : rf_W [0, 23, 24, 26] m m58 := W55.trans W63 (by decide)
              show pm_R _ 237 33 [.ref 41, .int a0, .int a1, .int a2, pm_no, pm_no, pm_no] [] _ _
              refine pm_R_op pm_M237 (pc_q := 34) (st_q := [.long 1]) rfl rfl rfl ?_
              refine pm_R_lo pm_M237 (pc_q := 36) (ls_q := [.ref 41, .int a0, .int a1, .int a2, .long 1, pm_no, pm_no]) (st_q := []) rfl rfl rfl ?_
              refine pm_R_op pm_M237 (pc_q := 37) (st_q := [.int 0]) rfl rfl rfl ?_
              refine pm_R_lo pm_M237 (pc_q := 39) (ls_q := [.ref 41, .int a0, .int a1, .int a2, .long 1, pm_no, .int 0]) (st_q := []) rfl rfl rfl ?_
              have L_221 : ∀ (N : Nat) (x6_221 : Int32) (y4_221 : Int64), sf_B 0 12 x6_221 → (12 - x6_221.toInt).toNat = N → pm_R (d + 3) 237 39 [.ref 41, .int a0, .int a1, .int a2, .long y4_221, pm_no, .int x6_221] [] h60 Q := by
                intro N
                induction N using Nat.strongRecOn with
                | ind N ih_221 =>
                  intro x6_221 y4_221 Bx6_221 hN_221
                  refine pm_R_lo pm_M237 (pc_q := 41) rfl rfl rfl ?_
                  refine pm_R_lo pm_M237 (pc_q := 42) rfl rfl rfl ?_
                  refine rf_R_get pm_M237 T61 (pc_q := 45) (v := .int (m58 24)) rfl rfl rfl rfl ?_
                  refine pm_R_icmp pm_M237 (t := 71) (pc_q := 48) rfl rfl rfl (fun c222 => ?_) (fun c222 => ?_)
                  · have B223 : sf_B 1 12 x6_221 := sf_leR c222 B65 Bx6_221
                    refine pm_R_lo pm_M237 (pc_q := 73) rfl rfl rfl ?_
                    exact pm_R_ret pm_M237 (r := some (.long y4_221)) rfl rfl (K y4_221 m58 w59 h60 T61 F64 W66)
                  · have B224 : sf_B 0 11 x6_221 := sf_ltL (Int32.not_le.mp c222) Bx6_221 B65
                    refine pm_R_lo pm_M237 (pc_q := 50) rfl rfl rfl ?_
                    refine pm_R_lo pm_M237 (pc_q := 51) rfl rfl rfl ?_
                    refine rf_R_get pm_M237 T61 (pc_q := 54) (v := .ref 53) rfl rfl rfl rfl ?_
                    refine pm_R_lo pm_M237 (pc_q := 56) rfl rfl rfl ?_
                    obtain ⟨f225, e226⟩ := T61.2.2.2.1 53 (by decide) (by decide)
                    refine rf_R_ild pm_M237 T61 (pc_q := 57) rfl e226 (by decide) (sf_in B224 (by decide) (by decide)) rfl (fun z228 ez229 => ?_)
                    refine sf_R_lany pm_M237 (pc_q := 58) (st := [.long y4_221]) rfl rfl rfl (fun z230 => ?_)
                    refine pm_R_cs pm_M237 (pc_q := 61) (ra := [.long z230]) (rest := [.long y4_221]) (ls_q := [.long z230, pm_no, pm_no, pm_no]) rfl rfl (Or.inl rfl) pm_M222 rfl rfl (Nat.le_of_ble_eq_true rfl) rfl rfl ?_
                    refine rf_c222 (d := d + 1)  (fun r231 B232 => ?_)
                    show pm_R _ 237 61 [.ref 41, .int a0, .int a1, .int a2, .long y4_221, pm_no, .int x6_221] [.int r231, .long y4_221] _ _
                    refine sf_R_i2l pm_M237 (pc_q := 62) rfl rfl B232 (fun z239 e240 B241 => ?_)
                    refine sf_R_lany pm_M237 (pc_q := 63) (st := []) rfl rfl rfl (fun z242 => ?_)
                    refine pm_R_lo pm_M237 (pc_q := 65) (ls_q := [.ref 41, .int a0, .int a1, .int a2, .long z242, pm_no, .int x6_221]) (st_q := []) rfl rfl rfl ?_
                    refine sf_R_iinc pm_M237 (pc_q := 68) (ls_q := fun z => [.ref 41, .int a0, .int a1, .int a2, .long z242, pm_no, .int z]) rfl B224 rfl (by decide) (by decide) (by decide) (fun _ => rfl) rfl (fun z243 e244 B245 => ?_)
                    show pm_R _ 237 68 [.ref 41, .int a0, .int a1, .int a2, .long z242, pm_no, .int z243] [] _ _
                    refine pm_R_br pm_M237 (pc_q := 39) rfl rfl ?_
                    exact ih_221 _ (sf_up hN_221 e244 B224 (by decide) (by decide)) z243 z242 (sf_weak B245 (by decide) (by decide)) rfl
              exact L_221 _ 0 1 (sf_weak sf_k0 (by decide) (by decide)) rfl

set_option maxRecDepth 100000 in
set_option maxHeartbeats 4000000 in
/-- SilentTableModel.lasts -/
theorem rf_c238 {d : Nat} {m : Nat → Int32} {w : Int64} {h : pm_H} {Q : Option Value → pm_H → Prop} {a0 : Int32} {a1 : Int32} (T : rf_T m w h)  (K : ∀ (r : Int32) (m_q : Nat → Int32) (w_q : Int64) (h_q : pm_H), rf_T m_q w_q h_q → rf_G [41, 53, 54] h h_q → rf_W [0, 23, 24, 26] m m_q → sf_B (-1) 2147483647 r → Q (some (.int r)) h_q) : pm_R (d + 8) 238 0 [.ref 41, .int a0, .int a1, pm_no, pm_no] [] h Q := by
  refine pm_R_lo pm_M238 (pc_q := 1) rfl rfl rfl ?_
  refine pm_R_op pm_M238 (pc_q := 2) (st_q := [.int 0, .ref 41]) rfl rfl rfl ?_
  refine rf_R_put pm_M238 T (pc_q := 5) rfl rfl rfl (by decide) rfl rfl sf_k0 rfl rfl (fun h1 m4 em5 T2 F3 => ?_)
  have F6 := (rf_G.refl [41, 53, 54] h).trans F3 (by decide)
  have B7 : sf_B 0 0 (m4 0) := by rw [em5]; exact sf_k0
  have W9 : rf_W [0, 23, 24, 26] m m4 := by rw [em5]; exact (rf_W.refl [0, 23, 24, 26] m).put (by decide)
  refine pm_R_lo pm_M238 (pc_q := 6) rfl rfl rfl ?_
  refine pm_R_lo pm_M238 (pc_q := 7) rfl rfl rfl ?_
  refine pm_R_lo pm_M238 (pc_q := 8) rfl rfl rfl ?_
  refine pm_R_cv pm_M238 (pc_q := 11) (a := 41) (ra := [.int a1, .int a0]) (rest := []) (ls_q := [.ref 41, .int a0, .int a1]) rfl rfl (Or.inl rfl) pm_M200 T2.2.1 rfl (by decide) (Nat.lt_of_lt_of_le (by decide) T2.1) rfl rfl (Nat.le_of_ble_eq_true rfl) rfl rfl ?_
  refine pm_R_lo pm_M200 (pc_q := 1) rfl rfl rfl ?_
  refine pm_R_op pm_M200 (pc_q := 2) (st_q := [.int 0, .ref 41]) rfl rfl rfl ?_
  refine pm_R_lo pm_M200 (pc_q := 3) rfl rfl rfl ?_
  refine pm_R_cv pm_M200 (pc_q := 6) (a := 41) (ra := [.int a0, .int 0]) (rest := []) (ls_q := [.ref 41, .int 0, .int a0]) rfl rfl (Or.inl rfl) pm_M177 T2.2.1 rfl (by decide) (Nat.lt_of_lt_of_le (by decide) T2.1) rfl rfl (Nat.le_of_ble_eq_true rfl) rfl rfl ?_
  refine pm_R_lo pm_M177 (pc_q := 1) rfl rfl rfl ?_
  refine pm_R_op pm_M177 (pc_q := 2) (st_q := [.int 0, .int a0]) rfl rfl rfl ?_
  refine pm_R_lo pm_M177 (pc_q := 3) rfl rfl rfl ?_
  refine rf_R_get pm_M177 T2 (pc_q := 6) (v := .ref 46) rfl rfl rfl rfl ?_
  refine pm_R_lo pm_M177 (pc_q := 7) rfl rfl rfl ?_
  obtain ⟨f10, e11, b12⟩ := T2.2.2.2.1 46 (by decide) (by decide)
  refine rf_R_ild pm_M177 T2 (pc_q := 8) rfl e11 (by decide) rfl rfl (fun z13 ez14 => ?_)
  have B15 : sf_B 0 2 z13 := ez14 ▸ (b12 0)
  refine pm_R_op pm_M177 (pc_q := 9) (st_q := [.int 1, .int z13, .int 0, .int a0]) rfl rfl rfl ?_
  refine sf_R_isub pm_M177 (pc_q := 10) rfl rfl B15 sf_k1 (by decide) (by decide) (fun z16 e17 B18 => ?_)
  refine pm_R_cs pm_M177 (pc_q := 13) (ra := [.int z16, .int 0, .int a0]) (rest := []) (ls_q := [.int a0, .int 0, .int z16]) rfl rfl (Or.inl rfl) pm_M174 rfl rfl (Nat.le_of_ble_eq_true rfl) rfl rfl ?_
  refine pm_R_lo pm_M174 (pc_q := 1) rfl rfl rfl ?_
  refine pm_R_lo pm_M174 (pc_q := 2) rfl rfl rfl ?_
  refine pm_R_icmp pm_M174 (t := 14) (pc_q := 5) rfl rfl rfl (fun c19 => ?_) (fun c19 => ?_)
  · have B20 : sf_B (-2147483648) (-1) a0 := sf_ltL c19 (sf_any a0) sf_k0
    refine pm_R_op pm_M174 (pc_q := 15) (st_q := [.int 0]) rfl rfl rfl ?_
    refine pm_R_ret pm_M174 (r := some (.int 0)) rfl rfl ?_
    show pm_R _ 177 13 [.ref 41, .int 0, .int a0] [.int 0] _ _
    refine pm_R_ret pm_M177 (r := some (.int 0)) rfl rfl ?_
    show pm_R _ 200 6 [.ref 41, .int a0, .int a1] [.int 0] _ _
    refine pm_R_br pm_M200 (pc_q := 18) (st_q := []) rfl rfl ?_
    refine pm_R_op pm_M200 (pc_q := 19) (st_q := [.int 0]) rfl rfl rfl ?_
    refine pm_R_ret pm_M200 (r := some (.int 0)) rfl rfl ?_
    show pm_R _ 238 11 [.ref 41, .int a0, .int a1, pm_no, pm_no] [.int 0] _ _
    refine pm_R_br pm_M238 (pc_q := 14) (st_q := []) rfl rfl ?_
    refine pm_R_op pm_M238 (pc_q := 15) (st_q := [.int (-1)]) rfl rfl rfl ?_
    exact pm_R_ret pm_M238 (r := some (.int (-1))) rfl rfl (K (-1) m4 w h1 T2 F6 W9 (sf_weak sf_kn1 (by decide) (by decide)))
  · have B21 : sf_B 0 2147483647 a0 := sf_leR (Int32.not_lt.mp c19) sf_k0 (sf_any a0)
    refine pm_R_lo pm_M174 (pc_q := 6) rfl rfl rfl ?_
    refine pm_R_lo pm_M174 (pc_q := 7) rfl rfl rfl ?_
    refine pm_R_icmp pm_M174 (t := 14) (pc_q := 10) rfl rfl rfl (fun c22 => ?_) (fun c22 => ?_)
    · skip
      refine pm_R_op pm_M174 (pc_q := 15) (st_q := [.int 0]) rfl rfl rfl ?_
      refine pm_R_ret pm_M174 (r := some (.int 0)) rfl rfl ?_
      show pm_R _ 177 13 [.ref 41, .int 0, .int a0] [.int 0] _ _
      refine pm_R_ret pm_M177 (r := some (.int 0)) rfl rfl ?_
      show pm_R _ 200 6 [.ref 41, .int a0, .int a1] [.int 0] _ _
      refine pm_R_br pm_M200 (pc_q := 18) (st_q := []) rfl rfl ?_
      refine pm_R_op pm_M200 (pc_q := 19) (st_q := [.int 0]) rfl rfl rfl ?_
      refine pm_R_ret pm_M200 (r := some (.int 0)) rfl rfl ?_
      show pm_R _ 238 11 [.ref 41, .int a0, .int a1, pm_no, pm_no] [.int 0] _ _
      refine pm_R_br pm_M238 (pc_q := 14) (st_q := []) rfl rfl ?_
      refine pm_R_op pm_M238 (pc_q := 15) (st_q := [.int (-1)]) rfl rfl rfl ?_
      exact pm_R_ret pm_M238 (r := some (.int (-1))) rfl rfl (K (-1) m4 w h1 T2 F6 W9 (sf_weak sf_kn1 (by decide) (by decide)))
    · have B23 : sf_B 0 1 a0 := sf_leL (Int32.not_lt.mp c22) B21 B18
      have B24 : sf_B 0 1 z16 := sf_leR (Int32.not_lt.mp c22) B21 B18
      refine pm_R_op pm_M174 (pc_q := 11) (st_q := [.int 1]) rfl rfl rfl ?_
      refine pm_R_br pm_M174 (pc_q := 15) rfl rfl ?_
      refine pm_R_ret pm_M174 (r := some (.int 1)) rfl rfl ?_
      show pm_R _ 177 13 [.ref 41, .int 0, .int a0] [.int 1] _ _
      refine pm_R_ret pm_M177 (r := some (.int 1)) rfl rfl ?_
      show pm_R _ 200 6 [.ref 41, .int a0, .int a1] [.int 1] _ _
      refine pm_R_br pm_M200 (pc_q := 9) (st_q := []) rfl rfl ?_
      refine pm_R_lo pm_M200 (pc_q := 10) rfl rfl rfl ?_
      refine pm_R_op pm_M200 (pc_q := 11) (st_q := [.int 1, .ref 41]) rfl rfl rfl ?_
      refine pm_R_lo pm_M200 (pc_q := 12) rfl rfl rfl ?_
      refine pm_R_cv pm_M200 (pc_q := 15) (a := 41) (ra := [.int a1, .int 1]) (rest := []) (ls_q := [.ref 41, .int 1, .int a1]) rfl rfl (Or.inl rfl) pm_M177 T2.2.1 rfl (by decide) (Nat.lt_of_lt_of_le (by decide) T2.1) rfl rfl (Nat.le_of_ble_eq_true rfl) rfl rfl ?_
      refine pm_R_lo pm_M177 (pc_q := 1) rfl rfl rfl ?_
      refine pm_R_op pm_M177 (pc_q := 2) (st_q := [.int 0, .int a1]) rfl rfl rfl ?_
      refine pm_R_lo pm_M177 (pc_q := 3) rfl rfl rfl ?_
      refine rf_R_get pm_M177 T2 (pc_q := 6) (v := .ref 46) rfl rfl rfl rfl ?_
      refine pm_R_lo pm_M177 (pc_q := 7) rfl rfl rfl ?_
      refine rf_R_ild pm_M177 T2 (pc_q := 8) rfl e11 (by decide) rfl rfl (fun z25 ez26 => ?_)
      have B27 : sf_B 0 3 z25 := ez26 ▸ (b12 1)
      refine pm_R_op pm_M177 (pc_q := 9) (st_q := [.int 1, .int z25, .int 0, .int a1]) rfl rfl rfl ?_
      refine sf_R_isub pm_M177 (pc_q := 10) rfl rfl B27 sf_k1 (by decide) (by decide) (fun z28 e29 B30 => ?_)
      refine pm_R_cs pm_M177 (pc_q := 13) (ra := [.int z28, .int 0, .int a1]) (rest := []) (ls_q := [.int a1, .int 0, .int z28]) rfl rfl (Or.inl rfl) pm_M174 rfl rfl (Nat.le_of_ble_eq_true rfl) rfl rfl ?_
      refine pm_R_lo pm_M174 (pc_q := 1) rfl rfl rfl ?_
      refine pm_R_lo pm_M174 (pc_q := 2) rfl rfl rfl ?_
      refine pm_R_icmp pm_M174 (t := 14) (pc_q := 5) rfl rfl rfl (fun c31 => ?_) (fun c31 => ?_)
      · have B32 : sf_B (-2147483648) (-1) a1 := sf_ltL c31 (sf_any a1) sf_k0
        refine pm_R_op pm_M174 (pc_q := 15) (st_q := [.int 0]) rfl rfl rfl ?_
        refine pm_R_ret pm_M174 (r := some (.int 0)) rfl rfl ?_
        show pm_R _ 177 13 [.ref 41, .int 1, .int a1] [.int 0] _ _
        refine pm_R_ret pm_M177 (r := some (.int 0)) rfl rfl ?_
        show pm_R _ 200 15 [.ref 41, .int a0, .int a1] [.int 0] _ _
        refine pm_R_br pm_M200 (pc_q := 18) (st_q := []) rfl rfl ?_
        refine pm_R_op pm_M200 (pc_q := 19) (st_q := [.int 0]) rfl rfl rfl ?_
        refine pm_R_ret pm_M200 (r := some (.int 0)) rfl rfl ?_
        show pm_R _ 238 11 [.ref 41, .int a0, .int a1, pm_no, pm_no] [.int 0] _ _
        refine pm_R_br pm_M238 (pc_q := 14) (st_q := []) rfl rfl ?_
        refine pm_R_op pm_M238 (pc_q := 15) (st_q := [.int (-1)]) rfl rfl rfl ?_
        exact pm_R_ret pm_M238 (r := some (.int (-1))) rfl rfl (K (-1) m4 w h1 T2 F6 W9 (sf_weak sf_kn1 (by decide) (by decide)))
      · have B33 : sf_B 0 2147483647 a1 := sf_leR (Int32.not_lt.mp c31) sf_k0 (sf_any a1)
        refine pm_R_lo pm_M174 (pc_q := 6) rfl rfl rfl ?_
        refine pm_R_lo pm_M174 (pc_q := 7) rfl rfl rfl ?_
        refine pm_R_icmp pm_M174 (t := 14) (pc_q := 10) rfl rfl rfl (fun c34 => ?_) (fun c34 => ?_)
        · skip
          refine pm_R_op pm_M174 (pc_q := 15) (st_q := [.int 0]) rfl rfl rfl ?_
          refine pm_R_ret pm_M174 (r := some (.int 0)) rfl rfl ?_
          show pm_R _ 177 13 [.ref 41, .int 1, .int a1] [.int 0] _ _
          refine pm_R_ret pm_M177 (r := some (.int 0)) rfl rfl ?_
          show pm_R _ 200 15 [.ref 41, .int a0, .int a1] [.int 0] _ _
          refine pm_R_br pm_M200 (pc_q := 18) (st_q := []) rfl rfl ?_
          refine pm_R_op pm_M200 (pc_q := 19) (st_q := [.int 0]) rfl rfl rfl ?_
          refine pm_R_ret pm_M200 (r := some (.int 0)) rfl rfl ?_
          show pm_R _ 238 11 [.ref 41, .int a0, .int a1, pm_no, pm_no] [.int 0] _ _
          refine pm_R_br pm_M238 (pc_q := 14) (st_q := []) rfl rfl ?_
          refine pm_R_op pm_M238 (pc_q := 15) (st_q := [.int (-1)]) rfl rfl rfl ?_
          exact pm_R_ret pm_M238 (r := some (.int (-1))) rfl rfl (K (-1) m4 w h1 T2 F6 W9 (sf_weak sf_kn1 (by decide) (by decide)))
        · have V35 := rf_V.mk e11 ez26 e29 (Int32.not_lt.mp c34) B33 (by decide)
          have V35 := V35.back F6 (by decide)
          have B36 : sf_B 0 2 a1 := sf_leL (Int32.not_lt.mp c34) B33 B30
          have B37 : sf_B 0 2 z28 := sf_leR (Int32.not_lt.mp c34) B33 B30
          refine pm_R_op pm_M174 (pc_q := 11) (st_q := [.int 1]) rfl rfl rfl ?_
          refine pm_R_br pm_M174 (pc_q := 15) rfl rfl ?_
          refine pm_R_ret pm_M174 (r := some (.int 1)) rfl rfl ?_
          show pm_R _ 177 13 [.ref 41, .int 1, .int a1] [.int 1] _ _
          refine pm_R_ret pm_M177 (r := some (.int 1)) rfl rfl ?_
          show pm_R _ 200 15 [.ref 41, .int a0, .int a1] [.int 1] _ _
          refine pm_R_br pm_M200 (pc_q := 20) (st_q := []) rfl rfl ?_
          refine pm_R_lo pm_M200 (pc_q := 21) rfl rfl rfl ?_
          refine pm_R_lo pm_M200 (pc_q := 22) rfl rfl rfl ?_
          refine pm_R_lo pm_M200 (pc_q := 23) rfl rfl rfl ?_
          refine pm_R_cv pm_M200 (pc_q := 26) (a := 41) (ra := [.int a1, .int a0]) (rest := []) (ls_q := [.ref 41, .int a0, .int a1, pm_no]) rfl rfl (Or.inl rfl) pm_M201 T2.2.1 rfl (by decide) (Nat.lt_of_lt_of_le (by decide) T2.1) rfl rfl (Nat.le_of_ble_eq_true rfl) rfl rfl ?_
          refine rf_c201 (d := d + 6) T2 B23 B36 (V35.F F6 (by decide)) (fun m40 w41 h42 T43 F44 W45 X46 B47 => ?_)
          have F48 := F6.trans F44 (by decide)
          have W49 : rf_W [0, 23, 24, 26] m m40 := W9.trans W45 (by decide)
          show pm_R _ 200 26 [.ref 41, .int a0, .int a1] [] _ _
          refine pm_R_op pm_M200 (pc_q := 27) (st_q := [.int 1]) rfl rfl rfl ?_
          refine pm_R_ret pm_M200 (r := some (.int 1)) rfl rfl ?_
          show pm_R _ 238 11 [.ref 41, .int a0, .int a1, pm_no, pm_no] [.int 1] _ _
          refine pm_R_br pm_M238 (pc_q := 16) (st_q := []) rfl rfl ?_
          refine pm_R_op pm_M238 (pc_q := 17) (st_q := [.int (-1)]) rfl rfl rfl ?_
          refine pm_R_lo pm_M238 (pc_q := 18) (ls_q := [.ref 41, .int a0, .int a1, .int (-1), pm_no]) (st_q := []) rfl rfl rfl ?_
          refine pm_R_op pm_M238 (pc_q := 19) (st_q := [.int 0]) rfl rfl rfl ?_
          refine pm_R_lo pm_M238 (pc_q := 21) (ls_q := [.ref 41, .int a0, .int a1, .int (-1), .int 0]) (st_q := []) rfl rfl rfl ?_
          have L_480 : ∀ (N : Nat) (h_480 : pm_H) (m_480 : Nat → Int32) (w_480 : Int64) (x3_480 : Int32) (x4_480 : Int32), rf_T m_480 w_480 h_480 → rf_G [41, 53, 54] h h_480 → rf_W [23, 24, 26] m40 m_480 → sf_B (-1) 2147483647 x3_480 → sf_B 0 10 x4_480 → (10 - x4_480.toInt).toNat = N → pm_R (d + 8) 238 21 [.ref 41, .int a0, .int a1, .int x3_480, .int x4_480] [] h_480 Q := by
            intro N
            induction N using Nat.strongRecOn with
            | ind N ih_480 =>
              intro h_480 m_480 w_480 x3_480 x4_480 T_480 F_480 W_480 Bx3_480 Bx4_480 hN_480
              have W483 : rf_W [0, 23, 24, 26] m m_480 := W49.trans W_480 (by decide)
              refine pm_R_lo pm_M238 (pc_q := 23) rfl rfl rfl ?_
              refine pm_R_op pm_M238 (pc_q := 25) (st_q := [.int 9, .int x4_480]) rfl rfl rfl ?_
              refine pm_R_icmp pm_M238 (t := 56) (pc_q := 28) rfl rfl rfl (fun c484 => ?_) (fun c484 => ?_)
              · have B485 : sf_B 10 10 x4_480 := sf_ltR c484 sf_k9 Bx4_480
                refine pm_R_lo pm_M238 (pc_q := 57) rfl rfl rfl ?_
                exact pm_R_ret pm_M238 (r := some (.int x3_480)) rfl (pm_ret_i _) (K x3_480 m_480 w_480 h_480 T_480 F_480 W483 Bx3_480)
              · have B486 : sf_B 0 9 x4_480 := sf_leL (Int32.not_lt.mp c484) Bx4_480 sf_k9
                refine pm_R_lo pm_M238 (pc_q := 29) rfl rfl rfl ?_
                refine pm_R_lo pm_M238 (pc_q := 30) rfl rfl rfl ?_
                refine pm_R_lo pm_M238 (pc_q := 31) rfl rfl rfl ?_
                refine pm_R_cv pm_M238 (pc_q := 34) (a := 41) (ra := [.int a1, .int a0]) (rest := []) (ls_q := [.ref 41, .int a0, .int a1, pm_no]) rfl rfl (Or.inl rfl) pm_M201 T_480.2.1 rfl (by decide) (Nat.lt_of_lt_of_le (by decide) T_480.1) rfl rfl (Nat.le_of_ble_eq_true rfl) rfl rfl ?_
                refine rf_c201 (d := d + 7) T_480 B23 B36 (V35.F F_480 (by decide)) (fun m489 w490 h491 T492 F493 W494 X495 B496 => ?_)
                have F497 := F_480.trans F493 (by decide)
                have W498 : rf_W [0, 23, 24, 26] m m489 := W483.trans W494 (by decide)
                have W499 : rf_W [23, 24, 26] m40 m489 := W_480.trans W494 (by decide)
                show pm_R _ 238 34 [.ref 41, .int a0, .int a1, .int x3_480, .int x4_480] [] _ _
                refine pm_R_lo pm_M238 (pc_q := 35) rfl rfl rfl ?_
                refine pm_R_lo pm_M238 (pc_q := 37) rfl rfl rfl ?_
                refine pm_R_cv pm_M238 (pc_q := 40) (a := 41) (ra := [.int x4_480]) (rest := []) (ls_q := [.ref 41, .int x4_480, pm_no, pm_no]) rfl rfl (Or.inl rfl) pm_M239 T492.2.1 rfl (by decide) (Nat.lt_of_lt_of_le (by decide) T492.1) rfl rfl (Nat.le_of_ble_eq_true rfl) rfl rfl ?_
                refine pm_R_lo pm_M239 (pc_q := 1) rfl rfl rfl ?_
                refine pm_R_cv pm_M239 (pc_q := 4) (a := 41) (ra := []) (rest := []) (ls_q := [.ref 41]) rfl rfl (Or.inl rfl) pm_M215 T492.2.1 rfl (by decide) (Nat.lt_of_lt_of_le (by decide) T492.1) rfl rfl (Nat.le_of_ble_eq_true rfl) rfl rfl ?_
                refine rf_c215 (d := d + 1) T492 B496 (fun r500 m502 w503 h504 T505 F506 W507 => ?_)
                have F508 := F497.trans F506 (by decide)
                have B509 : sf_B 1 12 (m502 24) := by rw [W507 24 (by decide)]; exact B496
                have W510 : rf_W [0, 23, 24, 26] m m502 := W498.trans W507 (by decide)
                have W511 : rf_W [23, 24, 26] m40 m502 := W499.trans W507 (by decide)
                show pm_R _ 239 4 [.ref 41, .int x4_480, pm_no, pm_no] [.long r500] _ _
                refine pm_R_lo pm_M239 (pc_q := 5) (ls_q := [.ref 41, .int x4_480, .long r500, pm_no]) (st_q := []) rfl rfl rfl ?_
                refine pm_R_lo pm_M239 (pc_q := 6) rfl rfl rfl ?_
                refine pm_R_op pm_M239 (pc_q := 7) (st_q := [.long 0, .long r500]) rfl rfl rfl ?_
                refine sf_R_lcmp pm_M239 (pc_q := 8) rfl rfl (fun z512 e513 => ?_)
                refine pm_R_ifc pm_M239 (t := 25) (pc_q := 11) rfl rfl rfl (fun c514 => ?_) (fun c514 => ?_)
                · have B515 : sf_B 0 0 z512 := sf_eqL c514 sf_k0
                  have B516 : lf_B 0 0 r500 := lf_eqB e513 B515 (⟨by decide, by decide⟩ : lf_B 0 0 0)
                  refine pm_R_op pm_M239 (pc_q := 26) (st_q := [.int 0]) rfl rfl rfl ?_
                  refine pm_R_ret pm_M239 (r := some (.int 0)) rfl rfl ?_
                  show pm_R _ 238 40 [.ref 41, .int a0, .int a1, .int x3_480, .int x4_480] [.int 0] _ _
                  refine pm_R_br pm_M238 (pc_q := 48) (st_q := []) rfl rfl ?_
                  refine pm_R_lo pm_M238 (pc_q := 49) rfl rfl rfl ?_
                  refine pm_R_lo pm_M238 (pc_q := 50) (ls_q := [.ref 41, .int a0, .int a1, .int x3_480, .int x4_480]) (st_q := []) rfl rfl rfl ?_
                  refine sf_R_iinc pm_M238 (pc_q := 53) (ls_q := fun z => [.ref 41, .int a0, .int a1, .int x3_480, .int z]) rfl B486 rfl (by decide) (by decide) (by decide) (fun _ => rfl) rfl (fun z517 e518 B519 => ?_)
                  show pm_R _ 238 53 [.ref 41, .int a0, .int a1, .int x3_480, .int z517] [] _ _
                  refine pm_R_br pm_M238 (pc_q := 21) rfl rfl ?_
                  exact ih_480 _ (sf_up hN_480 e518 B486 (by decide) (by decide)) h504 m502 w503 x3_480 z517 T505 F508 W511 Bx3_480 (sf_weak B519 (by decide) (by decide)) rfl
                · have k520 := sf_lneC e513 c514
                  refine pm_R_lo pm_M239 (pc_q := 12) rfl rfl rfl ?_
                  refine pm_R_lo pm_M239 (pc_q := 13) rfl rfl rfl ?_
                  refine pm_R_cv pm_M239 (pc_q := 16) (a := 41) (ra := [.int x4_480]) (rest := []) (ls_q := [.ref 41, .int x4_480]) rfl rfl (Or.inl rfl) pm_M234 T505.2.1 rfl (by decide) (Nat.lt_of_lt_of_le (by decide) T505.1) rfl rfl (Nat.le_of_ble_eq_true rfl) rfl rfl ?_
                  refine pm_R_lo pm_M234 (pc_q := 1) rfl rfl rfl ?_
                  refine pm_R_lo pm_M234 (pc_q := 2) rfl rfl rfl ?_
                  refine pm_R_cv pm_M234 (pc_q := 5) (a := 41) (ra := [.int x4_480]) (rest := []) (ls_q := [.ref 41, .int x4_480, pm_no, pm_no, pm_no, pm_no]) rfl rfl (Or.inl rfl) pm_M235 T505.2.1 rfl (by decide) (Nat.lt_of_lt_of_le (by decide) T505.1) rfl rfl (Nat.le_of_ble_eq_true rfl) rfl rfl ?_
                  refine rf_c235 (d := d + 4) T505 (sf_weak B486 (by decide) (by decide)) (fun m523 w524 h525 T526 F527 W528 => ?_)
                  have F529 := F508.trans F527 (by decide)
                  have B530 : sf_B 1 12 (m523 24) := by rw [W528 24 (by decide)]; exact B509
                  have W531 : rf_W [0, 23, 24, 26] m m523 := W510.trans W528 (by decide)
                  have W532 : rf_W [23, 24, 26] m40 m523 := W511.trans W528 (by decide)
                  show pm_R _ 234 5 [.ref 41, .int x4_480] [] _ _
                  refine pm_R_lo pm_M234 (pc_q := 6) rfl rfl rfl ?_
                  refine pm_R_cv pm_M234 (pc_q := 9) (a := 41) (ra := []) (rest := []) (ls_q := [.ref 41]) rfl rfl (Or.inl rfl) pm_M215 T526.2.1 rfl (by decide) (Nat.lt_of_lt_of_le (by decide) T526.1) rfl rfl (Nat.le_of_ble_eq_true rfl) rfl rfl ?_
                  refine rf_c215 (d := d + 0) T526 B530 (fun r533 m535 w536 h537 T538 F539 W540 => ?_)
                  have F541 := F529.trans F539 (by decide)
                  have B542 : sf_B 1 12 (m535 24) := by rw [W540 24 (by decide)]; exact B530
                  have W543 : rf_W [0, 23, 24, 26] m m535 := W531.trans W540 (by decide)
                  have W544 : rf_W [23, 24, 26] m40 m535 := W532.trans W540 (by decide)
                  show pm_R _ 234 9 [.ref 41, .int x4_480] [.long r533] _ _
                  refine pm_R_ret pm_M234 (r := some (.long r533)) rfl rfl ?_
                  show pm_R _ 239 16 [.ref 41, .int x4_480, .long r500, pm_no] [.long r533] _ _
                  refine pm_R_lo pm_M239 (pc_q := 17) rfl rfl rfl ?_
                  refine sf_R_lcmp pm_M239 (pc_q := 18) rfl rfl (fun z545 e546 => ?_)
                  refine pm_R_ifc pm_M239 (t := 25) (pc_q := 21) rfl rfl rfl (fun c547 => ?_) (fun c547 => ?_)
                  · have k548 := sf_lneC e546 c547
                    refine pm_R_op pm_M239 (pc_q := 26) (st_q := [.int 0]) rfl rfl rfl ?_
                    refine pm_R_ret pm_M239 (r := some (.int 0)) rfl rfl ?_
                    show pm_R _ 238 40 [.ref 41, .int a0, .int a1, .int x3_480, .int x4_480] [.int 0] _ _
                    refine pm_R_br pm_M238 (pc_q := 48) (st_q := []) rfl rfl ?_
                    refine pm_R_lo pm_M238 (pc_q := 49) rfl rfl rfl ?_
                    refine pm_R_lo pm_M238 (pc_q := 50) (ls_q := [.ref 41, .int a0, .int a1, .int x3_480, .int x4_480]) (st_q := []) rfl rfl rfl ?_
                    refine sf_R_iinc pm_M238 (pc_q := 53) (ls_q := fun z => [.ref 41, .int a0, .int a1, .int x3_480, .int z]) rfl B486 rfl (by decide) (by decide) (by decide) (fun _ => rfl) rfl (fun z549 e550 B551 => ?_)
                    show pm_R _ 238 53 [.ref 41, .int a0, .int a1, .int x3_480, .int z549] [] _ _
                    refine pm_R_br pm_M238 (pc_q := 21) rfl rfl ?_
                    exact ih_480 _ (sf_up hN_480 e550 B486 (by decide) (by decide)) h537 m535 w536 x3_480 z549 T538 F541 W544 Bx3_480 (sf_weak B551 (by decide) (by decide)) rfl
                  · have B552 : sf_B 0 0 z545 := sf_eqL (Classical.not_not.mp c547) sf_k0
                    have k553 := lf_ge e546 B552 (by decide)
                    refine pm_R_op pm_M239 (pc_q := 22) (st_q := [.int 1]) rfl rfl rfl ?_
                    refine pm_R_br pm_M239 (pc_q := 26) rfl rfl ?_
                    refine pm_R_ret pm_M239 (r := some (.int 1)) rfl rfl ?_
                    show pm_R _ 238 40 [.ref 41, .int a0, .int a1, .int x3_480, .int x4_480] [.int 1] _ _
                    refine pm_R_br pm_M238 (pc_q := 43) (st_q := []) rfl rfl ?_
                    refine pm_R_lo pm_M238 (pc_q := 45) rfl rfl rfl ?_
                    refine pm_R_br pm_M238 (pc_q := 49) rfl rfl ?_
                    refine pm_R_lo pm_M238 (pc_q := 50) (ls_q := [.ref 41, .int a0, .int a1, .int x4_480, .int x4_480]) (st_q := []) rfl rfl rfl ?_
                    refine sf_R_iinc pm_M238 (pc_q := 53) (ls_q := fun z => [.ref 41, .int a0, .int a1, .int x4_480, .int z]) rfl B486 rfl (by decide) (by decide) (by decide) (fun _ => rfl) rfl (fun z554 e555 B556 => ?_)
                    show pm_R _ 238 53 [.ref 41, .int a0, .int a1, .int x4_480, .int z554] [] _ _
                    refine pm_R_br pm_M238 (pc_q := 21) rfl rfl ?_
                    exact ih_480 _ (sf_up hN_480 e555 B486 (by decide) (by decide)) h537 m535 w536 x4_480 z554 T538 F541 W544 (sf_weak B486 (by decide) (by decide)) (sf_weak B556 (by decide) (by decide)) rfl
          exact L_480 _ h42 m40 w41 (-1) 0 T43 F48 (rf_W.refl _ _) (sf_weak sf_kn1 (by decide) (by decide)) (sf_weak sf_k0 (by decide) (by decide)) rfl

set_option maxRecDepth 100000 in
set_option maxHeartbeats 4000000 in
/-- SilentTableModel.brief -/
theorem rf_c240 {d : Nat} {m : Nat → Int32} {w : Int64} {h : pm_H} {Q : Option Value → pm_H → Prop} {a0 : Int32} {a1 : Int32} {a2 : Int32} {a3 : Int32} (T : rf_T m w h)  (K : ∀ (r : Int32) (m_q : Nat → Int32) (w_q : Int64) (h_q : pm_H), rf_T m_q w_q h_q → rf_G [41, 53, 54, 55, 66] h h_q → rf_W [0, 23, 24, 26] m m_q → sf_B (-1) 9 r → Q (some (.int r)) h_q) : pm_R (d + 9) 240 0 [.ref 41, .int a0, .int a1, .int a2, .int a3] [] h Q := by
  refine pm_R_lo pm_M240 (pc_q := 1) rfl rfl rfl ?_
  refine pm_R_op pm_M240 (pc_q := 2) (st_q := [.int 0, .ref 41]) rfl rfl rfl ?_
  refine rf_R_put pm_M240 T (pc_q := 5) rfl rfl rfl (by decide) rfl rfl sf_k0 rfl rfl (fun h1 m4 em5 T2 F3 => ?_)
  have F6 := (rf_G.refl [41, 53, 54, 55, 66] h).trans F3 (by decide)
  have B7 : sf_B 0 0 (m4 0) := by rw [em5]; exact sf_k0
  have W9 : rf_W [0, 23, 24, 26] m m4 := by rw [em5]; exact (rf_W.refl [0, 23, 24, 26] m).put (by decide)
  refine pm_R_lo pm_M240 (pc_q := 6) rfl rfl rfl ?_
  refine pm_R_op pm_M240 (pc_q := 7) (st_q := [.int 0, .ref 41]) rfl rfl rfl ?_
  refine pm_R_lo pm_M240 (pc_q := 8) rfl rfl rfl ?_
  refine pm_R_cv pm_M240 (pc_q := 11) (a := 41) (ra := [.int a0, .int 0]) (rest := []) (ls_q := [.ref 41, .int 0, .int a0]) rfl rfl (Or.inl rfl) pm_M177 T2.2.1 rfl (by decide) (Nat.lt_of_lt_of_le (by decide) T2.1) rfl rfl (Nat.le_of_ble_eq_true rfl) rfl rfl ?_
  refine pm_R_lo pm_M177 (pc_q := 1) rfl rfl rfl ?_
  refine pm_R_op pm_M177 (pc_q := 2) (st_q := [.int 0, .int a0]) rfl rfl rfl ?_
  refine pm_R_lo pm_M177 (pc_q := 3) rfl rfl rfl ?_
  refine rf_R_get pm_M177 T2 (pc_q := 6) (v := .ref 46) rfl rfl rfl rfl ?_
  refine pm_R_lo pm_M177 (pc_q := 7) rfl rfl rfl ?_
  obtain ⟨f10, e11, b12⟩ := T2.2.2.2.1 46 (by decide) (by decide)
  refine rf_R_ild pm_M177 T2 (pc_q := 8) rfl e11 (by decide) rfl rfl (fun z13 ez14 => ?_)
  have B15 : sf_B 0 2 z13 := ez14 ▸ (b12 0)
  refine pm_R_op pm_M177 (pc_q := 9) (st_q := [.int 1, .int z13, .int 0, .int a0]) rfl rfl rfl ?_
  refine sf_R_isub pm_M177 (pc_q := 10) rfl rfl B15 sf_k1 (by decide) (by decide) (fun z16 e17 B18 => ?_)
  refine pm_R_cs pm_M177 (pc_q := 13) (ra := [.int z16, .int 0, .int a0]) (rest := []) (ls_q := [.int a0, .int 0, .int z16]) rfl rfl (Or.inl rfl) pm_M174 rfl rfl (Nat.le_of_ble_eq_true rfl) rfl rfl ?_
  refine pm_R_lo pm_M174 (pc_q := 1) rfl rfl rfl ?_
  refine pm_R_lo pm_M174 (pc_q := 2) rfl rfl rfl ?_
  refine pm_R_icmp pm_M174 (t := 14) (pc_q := 5) rfl rfl rfl (fun c19 => ?_) (fun c19 => ?_)
  · have B20 : sf_B (-2147483648) (-1) a0 := sf_ltL c19 (sf_any a0) sf_k0
    refine pm_R_op pm_M174 (pc_q := 15) (st_q := [.int 0]) rfl rfl rfl ?_
    refine pm_R_ret pm_M174 (r := some (.int 0)) rfl rfl ?_
    show pm_R _ 177 13 [.ref 41, .int 0, .int a0] [.int 0] _ _
    refine pm_R_ret pm_M177 (r := some (.int 0)) rfl rfl ?_
    show pm_R _ 240 11 [.ref 41, .int a0, .int a1, .int a2, .int a3] [.int 0] _ _
    refine pm_R_br pm_M240 (pc_q := 34) (st_q := []) rfl rfl ?_
    refine pm_R_op pm_M240 (pc_q := 35) (st_q := [.int (-1)]) rfl rfl rfl ?_
    exact pm_R_ret pm_M240 (r := some (.int (-1))) rfl rfl (K (-1) m4 w h1 T2 F6 W9 (sf_weak sf_kn1 (by decide) (by decide)))
  · have B21 : sf_B 0 2147483647 a0 := sf_leR (Int32.not_lt.mp c19) sf_k0 (sf_any a0)
    refine pm_R_lo pm_M174 (pc_q := 6) rfl rfl rfl ?_
    refine pm_R_lo pm_M174 (pc_q := 7) rfl rfl rfl ?_
    refine pm_R_icmp pm_M174 (t := 14) (pc_q := 10) rfl rfl rfl (fun c22 => ?_) (fun c22 => ?_)
    · skip
      refine pm_R_op pm_M174 (pc_q := 15) (st_q := [.int 0]) rfl rfl rfl ?_
      refine pm_R_ret pm_M174 (r := some (.int 0)) rfl rfl ?_
      show pm_R _ 177 13 [.ref 41, .int 0, .int a0] [.int 0] _ _
      refine pm_R_ret pm_M177 (r := some (.int 0)) rfl rfl ?_
      show pm_R _ 240 11 [.ref 41, .int a0, .int a1, .int a2, .int a3] [.int 0] _ _
      refine pm_R_br pm_M240 (pc_q := 34) (st_q := []) rfl rfl ?_
      refine pm_R_op pm_M240 (pc_q := 35) (st_q := [.int (-1)]) rfl rfl rfl ?_
      exact pm_R_ret pm_M240 (r := some (.int (-1))) rfl rfl (K (-1) m4 w h1 T2 F6 W9 (sf_weak sf_kn1 (by decide) (by decide)))
    · have B23 : sf_B 0 1 a0 := sf_leL (Int32.not_lt.mp c22) B21 B18
      have B24 : sf_B 0 1 z16 := sf_leR (Int32.not_lt.mp c22) B21 B18
      refine pm_R_op pm_M174 (pc_q := 11) (st_q := [.int 1]) rfl rfl rfl ?_
      refine pm_R_br pm_M174 (pc_q := 15) rfl rfl ?_
      refine pm_R_ret pm_M174 (r := some (.int 1)) rfl rfl ?_
      show pm_R _ 177 13 [.ref 41, .int 0, .int a0] [.int 1] _ _
      refine pm_R_ret pm_M177 (r := some (.int 1)) rfl rfl ?_
      show pm_R _ 240 11 [.ref 41, .int a0, .int a1, .int a2, .int a3] [.int 1] _ _
      refine pm_R_br pm_M240 (pc_q := 14) (st_q := []) rfl rfl ?_
      refine pm_R_lo pm_M240 (pc_q := 15) rfl rfl rfl ?_
      refine pm_R_op pm_M240 (pc_q := 16) (st_q := [.int 0, .int a1]) rfl rfl rfl ?_
      refine pm_R_op pm_M240 (pc_q := 18) (st_q := [.int 49, .int 0, .int a1]) rfl rfl rfl ?_
      refine pm_R_cs pm_M240 (pc_q := 21) (ra := [.int 49, .int 0, .int a1]) (rest := []) (ls_q := [.int a1, .int 0, .int 49]) rfl rfl (Or.inl rfl) pm_M174 rfl rfl (Nat.le_of_ble_eq_true rfl) rfl rfl ?_
      refine pm_R_lo pm_M174 (pc_q := 1) rfl rfl rfl ?_
      refine pm_R_lo pm_M174 (pc_q := 2) rfl rfl rfl ?_
      refine pm_R_icmp pm_M174 (t := 14) (pc_q := 5) rfl rfl rfl (fun c25 => ?_) (fun c25 => ?_)
      · have B26 : sf_B (-2147483648) (-1) a1 := sf_ltL c25 (sf_any a1) sf_k0
        refine pm_R_op pm_M174 (pc_q := 15) (st_q := [.int 0]) rfl rfl rfl ?_
        refine pm_R_ret pm_M174 (r := some (.int 0)) rfl rfl ?_
        show pm_R _ 240 21 [.ref 41, .int a0, .int a1, .int a2, .int a3] [.int 0] _ _
        refine pm_R_br pm_M240 (pc_q := 34) (st_q := []) rfl rfl ?_
        refine pm_R_op pm_M240 (pc_q := 35) (st_q := [.int (-1)]) rfl rfl rfl ?_
        exact pm_R_ret pm_M240 (r := some (.int (-1))) rfl rfl (K (-1) m4 w h1 T2 F6 W9 (sf_weak sf_kn1 (by decide) (by decide)))
      · have B27 : sf_B 0 2147483647 a1 := sf_leR (Int32.not_lt.mp c25) sf_k0 (sf_any a1)
        refine pm_R_lo pm_M174 (pc_q := 6) rfl rfl rfl ?_
        refine pm_R_lo pm_M174 (pc_q := 7) rfl rfl rfl ?_
        refine pm_R_icmp pm_M174 (t := 14) (pc_q := 10) rfl rfl rfl (fun c28 => ?_) (fun c28 => ?_)
        · have B29 : sf_B 50 2147483647 a1 := sf_ltR c28 sf_k49 B27
          refine pm_R_op pm_M174 (pc_q := 15) (st_q := [.int 0]) rfl rfl rfl ?_
          refine pm_R_ret pm_M174 (r := some (.int 0)) rfl rfl ?_
          show pm_R _ 240 21 [.ref 41, .int a0, .int a1, .int a2, .int a3] [.int 0] _ _
          refine pm_R_br pm_M240 (pc_q := 34) (st_q := []) rfl rfl ?_
          refine pm_R_op pm_M240 (pc_q := 35) (st_q := [.int (-1)]) rfl rfl rfl ?_
          exact pm_R_ret pm_M240 (r := some (.int (-1))) rfl rfl (K (-1) m4 w h1 T2 F6 W9 (sf_weak sf_kn1 (by decide) (by decide)))
        · have B30 : sf_B 0 49 a1 := sf_leL (Int32.not_lt.mp c28) B27 sf_k49
          refine pm_R_op pm_M174 (pc_q := 11) (st_q := [.int 1]) rfl rfl rfl ?_
          refine pm_R_br pm_M174 (pc_q := 15) rfl rfl ?_
          refine pm_R_ret pm_M174 (r := some (.int 1)) rfl rfl ?_
          show pm_R _ 240 21 [.ref 41, .int a0, .int a1, .int a2, .int a3] [.int 1] _ _
          refine pm_R_br pm_M240 (pc_q := 24) (st_q := []) rfl rfl ?_
          refine pm_R_lo pm_M240 (pc_q := 25) rfl rfl rfl ?_
          refine pm_R_op pm_M240 (pc_q := 26) (st_q := [.int (-1), .int a2]) rfl rfl rfl ?_
          refine pm_R_op pm_M240 (pc_q := 28) (st_q := [.int 9, .int (-1), .int a2]) rfl rfl rfl ?_
          refine pm_R_cs pm_M240 (pc_q := 31) (ra := [.int 9, .int (-1), .int a2]) (rest := []) (ls_q := [.int a2, .int (-1), .int 9]) rfl rfl (Or.inl rfl) pm_M174 rfl rfl (Nat.le_of_ble_eq_true rfl) rfl rfl ?_
          refine pm_R_lo pm_M174 (pc_q := 1) rfl rfl rfl ?_
          refine pm_R_lo pm_M174 (pc_q := 2) rfl rfl rfl ?_
          refine pm_R_icmp pm_M174 (t := 14) (pc_q := 5) rfl rfl rfl (fun c31 => ?_) (fun c31 => ?_)
          · have B32 : sf_B (-2147483648) (-2) a2 := sf_ltL c31 (sf_any a2) sf_kn1
            refine pm_R_op pm_M174 (pc_q := 15) (st_q := [.int 0]) rfl rfl rfl ?_
            refine pm_R_ret pm_M174 (r := some (.int 0)) rfl rfl ?_
            show pm_R _ 240 31 [.ref 41, .int a0, .int a1, .int a2, .int a3] [.int 0] _ _
            refine pm_R_br pm_M240 (pc_q := 34) (st_q := []) rfl rfl ?_
            refine pm_R_op pm_M240 (pc_q := 35) (st_q := [.int (-1)]) rfl rfl rfl ?_
            exact pm_R_ret pm_M240 (r := some (.int (-1))) rfl rfl (K (-1) m4 w h1 T2 F6 W9 (sf_weak sf_kn1 (by decide) (by decide)))
          · have B33 : sf_B (-1) 2147483647 a2 := sf_leR (Int32.not_lt.mp c31) sf_kn1 (sf_any a2)
            refine pm_R_lo pm_M174 (pc_q := 6) rfl rfl rfl ?_
            refine pm_R_lo pm_M174 (pc_q := 7) rfl rfl rfl ?_
            refine pm_R_icmp pm_M174 (t := 14) (pc_q := 10) rfl rfl rfl (fun c34 => ?_) (fun c34 => ?_)
            · have B35 : sf_B 10 2147483647 a2 := sf_ltR c34 sf_k9 B33
              refine pm_R_op pm_M174 (pc_q := 15) (st_q := [.int 0]) rfl rfl rfl ?_
              refine pm_R_ret pm_M174 (r := some (.int 0)) rfl rfl ?_
              show pm_R _ 240 31 [.ref 41, .int a0, .int a1, .int a2, .int a3] [.int 0] _ _
              refine pm_R_br pm_M240 (pc_q := 34) (st_q := []) rfl rfl ?_
              refine pm_R_op pm_M240 (pc_q := 35) (st_q := [.int (-1)]) rfl rfl rfl ?_
              exact pm_R_ret pm_M240 (r := some (.int (-1))) rfl rfl (K (-1) m4 w h1 T2 F6 W9 (sf_weak sf_kn1 (by decide) (by decide)))
            · have B36 : sf_B (-1) 9 a2 := sf_leL (Int32.not_lt.mp c34) B33 sf_k9
              refine pm_R_op pm_M174 (pc_q := 11) (st_q := [.int 1]) rfl rfl rfl ?_
              refine pm_R_br pm_M174 (pc_q := 15) rfl rfl ?_
              refine pm_R_ret pm_M174 (r := some (.int 1)) rfl rfl ?_
              show pm_R _ 240 31 [.ref 41, .int a0, .int a1, .int a2, .int a3] [.int 1] _ _
              refine pm_R_br pm_M240 (pc_q := 36) (st_q := []) rfl rfl ?_
              refine pm_R_lo pm_M240 (pc_q := 37) rfl rfl rfl ?_
              refine pm_R_lo pm_M240 (pc_q := 38) rfl rfl rfl ?_
              refine rf_R_put pm_M240 T2 (pc_q := 41) rfl rfl rfl (by decide) rfl rfl B23 rfl rfl (fun h37 m40 em41 T38 F39 => ?_)
              have F42 := F6.trans F39 (by decide)
              have B43 : sf_B 0 1 (m40 23) := by rw [em41]; exact B23
              have ek44 : (m40 23).toInt = (a0).toInt := by rw [em41]; rfl
              have W45 : rf_W [0, 23, 24, 26] m m40 := by rw [em41]; exact W9.put (by decide)
              refine pm_R_lo pm_M240 (pc_q := 42) rfl rfl rfl ?_
              refine pm_R_lo pm_M240 (pc_q := 43) rfl rfl rfl ?_
              refine pm_R_lo pm_M240 (pc_q := 44) rfl rfl rfl ?_
              refine pm_R_cv pm_M240 (pc_q := 47) (a := 41) (ra := [.int a2, .int a1]) (rest := []) (ls_q := [.ref 41, .int a1, .int a2, pm_no, pm_no]) rfl rfl (Or.inl rfl) pm_M241 T38.2.1 rfl (by decide) (Nat.lt_of_lt_of_le (by decide) T38.1) rfl rfl (Nat.le_of_ble_eq_true rfl) rfl rfl ?_
              refine rf_c241 (d := d + 0) T38 B30 B36 (fun r46 m48 w49 h50 T51 F52 W53 B47 => ?_)
              have F54 := F42.trans F52 (by decide)
              have W55 : rf_W [0, 23, 24, 26] m m48 := W45.trans W53 (by decide)
              show pm_R _ 240 47 [.ref 41, .int a0, .int a1, .int a2, .int a3] [.int r46] _ _
              refine pm_R_ifc pm_M240 (t := 59) (pc_q := 50) rfl rfl rfl (fun c56 => ?_) (fun c56 => ?_)
              · have B57 : sf_B 0 0 r46 := sf_eqL c56 sf_k0
                refine pm_R_op pm_M240 (pc_q := 60) (st_q := [.int (-1)]) rfl rfl rfl ?_
                exact pm_R_ret pm_M240 (r := some (.int (-1))) rfl rfl (K (-1) m48 w49 h50 T51 F54 W55 (sf_weak sf_kn1 (by decide) (by decide)))
              · have B58 : sf_B 1 1 r46 := sf_neL0 c56 sf_k0 B47
                refine pm_R_lo pm_M240 (pc_q := 51) rfl rfl rfl ?_
                refine pm_R_lo pm_M240 (pc_q := 53) rfl rfl rfl ?_
                refine pm_R_cv pm_M240 (pc_q := 56) (a := 41) (ra := [.int a3]) (rest := []) (ls_q := [.ref 41, .int a3]) rfl rfl (Or.inl rfl) pm_M246 T51.2.1 rfl (by decide) (Nat.lt_of_lt_of_le (by decide) T51.1) rfl rfl (Nat.le_of_ble_eq_true rfl) rfl rfl ?_
                refine pm_R_lo pm_M246 (pc_q := 1) rfl rfl rfl ?_
                refine pm_R_op pm_M246 (pc_q := 2) (st_q := [.int 0, .int a3]) rfl rfl rfl ?_
                refine pm_R_lo pm_M246 (pc_q := 3) rfl rfl rfl ?_
                refine rf_R_get pm_M246 T51 (pc_q := 6) (v := .ref 66) rfl rfl rfl rfl ?_
                refine pm_R_op pm_M246 (pc_q := 7) (st_q := [.int 0, .ref 66, .int 0, .int a3]) rfl rfl rfl ?_
                obtain ⟨f59, e60, b61⟩ := T51.2.2.2.1 66 (by decide) (by decide)
                refine rf_R_ild pm_M246 T51 (pc_q := 8) rfl e60 (by decide) rfl rfl (fun z62 ez63 => ?_)
                have B64 : sf_B 0 4 z62 := ez63 ▸ (b61 0)
                refine pm_R_cs pm_M246 (pc_q := 11) (ra := [.int z62, .int 0, .int a3]) (rest := []) (ls_q := [.int a3, .int 0, .int z62]) rfl rfl (Or.inl rfl) pm_M174 rfl rfl (Nat.le_of_ble_eq_true rfl) rfl rfl ?_
                refine pm_R_lo pm_M174 (pc_q := 1) rfl rfl rfl ?_
                refine pm_R_lo pm_M174 (pc_q := 2) rfl rfl rfl ?_
                refine pm_R_icmp pm_M174 (t := 14) (pc_q := 5) rfl rfl rfl (fun c65 => ?_) (fun c65 => ?_)
                · have B66 : sf_B (-2147483648) (-1) a3 := sf_ltL c65 (sf_any a3) sf_k0
                  refine pm_R_op pm_M174 (pc_q := 15) (st_q := [.int 0]) rfl rfl rfl ?_
                  refine pm_R_ret pm_M174 (r := some (.int 0)) rfl rfl ?_
                  show pm_R _ 246 11 [.ref 41, .int a3] [.int 0] _ _
                  refine pm_R_br pm_M246 (pc_q := 23) (st_q := []) rfl rfl ?_
                  refine pm_R_op pm_M246 (pc_q := 24) (st_q := [.int (-1)]) rfl rfl rfl ?_
                  refine pm_R_ret pm_M246 (r := some (.int (-1))) rfl rfl ?_
                  show pm_R _ 240 56 [.ref 41, .int a0, .int a1, .int a2, .int a3] [.int (-1)] _ _
                  refine pm_R_br pm_M240 (pc_q := 60) rfl rfl ?_
                  exact pm_R_ret pm_M240 (r := some (.int (-1))) rfl rfl (K (-1) m48 w49 h50 T51 F54 W55 (sf_weak sf_kn1 (by decide) (by decide)))
                · have B67 : sf_B 0 2147483647 a3 := sf_leR (Int32.not_lt.mp c65) sf_k0 (sf_any a3)
                  refine pm_R_lo pm_M174 (pc_q := 6) rfl rfl rfl ?_
                  refine pm_R_lo pm_M174 (pc_q := 7) rfl rfl rfl ?_
                  refine pm_R_icmp pm_M174 (t := 14) (pc_q := 10) rfl rfl rfl (fun c68 => ?_) (fun c68 => ?_)
                  · have B69 : sf_B 1 2147483647 a3 := sf_ltR c68 B64 B67
                    refine pm_R_op pm_M174 (pc_q := 15) (st_q := [.int 0]) rfl rfl rfl ?_
                    refine pm_R_ret pm_M174 (r := some (.int 0)) rfl rfl ?_
                    show pm_R _ 246 11 [.ref 41, .int a3] [.int 0] _ _
                    refine pm_R_br pm_M246 (pc_q := 23) (st_q := []) rfl rfl ?_
                    refine pm_R_op pm_M246 (pc_q := 24) (st_q := [.int (-1)]) rfl rfl rfl ?_
                    refine pm_R_ret pm_M246 (r := some (.int (-1))) rfl rfl ?_
                    show pm_R _ 240 56 [.ref 41, .int a0, .int a1, .int a2, .int a3] [.int (-1)] _ _
                    refine pm_R_br pm_M240 (pc_q := 60) rfl rfl ?_
                    exact pm_R_ret pm_M240 (r := some (.int (-1))) rfl rfl (K (-1) m48 w49 h50 T51 F54 W55 (sf_weak sf_kn1 (by decide) (by decide)))
                  · have B70 : sf_B 0 4 a3 := sf_leL (Int32.not_lt.mp c68) B67 B64
                    refine pm_R_op pm_M174 (pc_q := 11) (st_q := [.int 1]) rfl rfl rfl ?_
                    refine pm_R_br pm_M174 (pc_q := 15) rfl rfl ?_
                    refine pm_R_ret pm_M174 (r := some (.int 1)) rfl rfl ?_
                    show pm_R _ 246 11 [.ref 41, .int a3] [.int 1] _ _
                    refine pm_R_br pm_M246 (pc_q := 14) (st_q := []) rfl rfl ?_
                    refine pm_R_lo pm_M246 (pc_q := 15) rfl rfl rfl ?_
                    refine rf_R_get pm_M246 T51 (pc_q := 18) (v := .ref 66) rfl rfl rfl rfl ?_
                    refine pm_R_lo pm_M246 (pc_q := 19) rfl rfl rfl ?_
                    refine rf_R_ild pm_M246 T51 (pc_q := 20) rfl e60 (by decide) (sf_in B70 (by decide) (by decide)) rfl (fun z71 ez72 => ?_)
                    have B73 : sf_B 0 9 z71 := ez72 ▸ (rf_p66 b61 _)
                    refine pm_R_br pm_M246 (pc_q := 24) rfl rfl ?_
                    refine pm_R_ret pm_M246 (r := some (.int z71)) rfl (pm_ret_i _) ?_
                    show pm_R _ 240 56 [.ref 41, .int a0, .int a1, .int a2, .int a3] [.int z71] _ _
                    refine pm_R_br pm_M240 (pc_q := 60) rfl rfl ?_
                    exact pm_R_ret pm_M240 (r := some (.int z71)) rfl (pm_ret_i _) (K z71 m48 w49 h50 T51 F54 W55 (sf_weak B73 (by decide) (by decide)))
