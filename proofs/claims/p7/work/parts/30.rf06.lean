set_option maxRecDepth 100000 in
set_option maxHeartbeats 4000000 in
/-- SilentTableModel.becomes -/
theorem rf_c288 {d : Nat} {m : Nat → Int32} {w : Int64} {h : pm_H} {Q : Option Value → pm_H → Prop} {a0 : Int32} {a1 : Int32} {a2 : Int32} (T : rf_T m w h)  (K : ∀ (r : Int32) (m_q : Nat → Int32) (w_q : Int64) (h_q : pm_H), rf_T m_q w_q h_q → rf_G [41, 53] h h_q → rf_W [0, 23, 24, 26] m m_q → sf_B (-1) 9 r → Q (some (.int r)) h_q) : pm_R (d + 3) 288 0 [.ref 41, .int a0, .int a1, .int a2, pm_no, pm_no, pm_no] [] h Q := by
  refine pm_R_lo pm_M288 (pc_q := 1) rfl rfl rfl ?_
  refine pm_R_op pm_M288 (pc_q := 2) (st_q := [.int 0, .ref 41]) rfl rfl rfl ?_
  refine rf_R_put pm_M288 T (pc_q := 5) rfl rfl rfl (by decide) rfl rfl sf_k0 rfl rfl (fun h1 m4 em5 T2 F3 => ?_)
  have F6 := (rf_G.refl [41, 53] h).trans F3 (by decide)
  have B7 : sf_B 0 0 (m4 0) := by rw [em5]; exact sf_k0
  have W9 : rf_W [0, 23, 24, 26] m m4 := by rw [em5]; exact (rf_W.refl [0, 23, 24, 26] m).put (by decide)
  refine pm_R_lo pm_M288 (pc_q := 6) rfl rfl rfl ?_
  refine pm_R_op pm_M288 (pc_q := 7) (st_q := [.int 1, .ref 41]) rfl rfl rfl ?_
  refine pm_R_lo pm_M288 (pc_q := 8) rfl rfl rfl ?_
  refine pm_R_cv pm_M288 (pc_q := 11) (a := 41) (ra := [.int a2, .int 1]) (rest := []) (ls_q := [.ref 41, .int 1, .int a2]) rfl rfl (Or.inl rfl) pm_M177 T2.2.1 rfl (by decide) (Nat.lt_of_lt_of_le (by decide) T2.1) rfl rfl (Nat.le_of_ble_eq_true rfl) rfl rfl ?_
  refine pm_R_lo pm_M177 (pc_q := 1) rfl rfl rfl ?_
  refine pm_R_op pm_M177 (pc_q := 2) (st_q := [.int 0, .int a2]) rfl rfl rfl ?_
  refine pm_R_lo pm_M177 (pc_q := 3) rfl rfl rfl ?_
  refine rf_R_get pm_M177 T2 (pc_q := 6) (v := .ref 46) rfl rfl rfl rfl ?_
  refine pm_R_lo pm_M177 (pc_q := 7) rfl rfl rfl ?_
  obtain ⟨f10, e11, b12⟩ := T2.2.2.2.1 46 (by decide) (by decide)
  refine rf_R_ild pm_M177 T2 (pc_q := 8) rfl e11 (by decide) rfl rfl (fun z13 ez14 => ?_)
  have B15 : sf_B 0 3 z13 := ez14 ▸ (b12 1)
  refine pm_R_op pm_M177 (pc_q := 9) (st_q := [.int 1, .int z13, .int 0, .int a2]) rfl rfl rfl ?_
  refine sf_R_isub pm_M177 (pc_q := 10) rfl rfl B15 sf_k1 (by decide) (by decide) (fun z16 e17 B18 => ?_)
  refine pm_R_cs pm_M177 (pc_q := 13) (ra := [.int z16, .int 0, .int a2]) (rest := []) (ls_q := [.int a2, .int 0, .int z16]) rfl rfl (Or.inl rfl) pm_M174 rfl rfl (Nat.le_of_ble_eq_true rfl) rfl rfl ?_
  refine pm_R_lo pm_M174 (pc_q := 1) rfl rfl rfl ?_
  refine pm_R_lo pm_M174 (pc_q := 2) rfl rfl rfl ?_
  refine pm_R_icmp pm_M174 (t := 14) (pc_q := 5) rfl rfl rfl (fun c19 => ?_) (fun c19 => ?_)
  · have B20 : sf_B (-2147483648) (-1) a2 := sf_ltL c19 (sf_any a2) sf_k0
    refine pm_R_op pm_M174 (pc_q := 15) (st_q := [.int 0]) rfl rfl rfl ?_
    refine pm_R_ret pm_M174 (r := some (.int 0)) rfl rfl ?_
    show pm_R _ 177 13 [.ref 41, .int 1, .int a2] [.int 0] _ _
    refine pm_R_ret pm_M177 (r := some (.int 0)) rfl rfl ?_
    show pm_R _ 288 11 [.ref 41, .int a0, .int a1, .int a2, pm_no, pm_no, pm_no] [.int 0] _ _
    refine pm_R_br pm_M288 (pc_q := 39) (st_q := []) rfl rfl ?_
    refine pm_R_op pm_M288 (pc_q := 40) (st_q := [.int (-1)]) rfl rfl rfl ?_
    exact pm_R_ret pm_M288 (r := some (.int (-1))) rfl rfl (K (-1) m4 w h1 T2 F6 W9 (sf_weak sf_kn1 (by decide) (by decide)))
  · have B21 : sf_B 0 2147483647 a2 := sf_leR (Int32.not_lt.mp c19) sf_k0 (sf_any a2)
    refine pm_R_lo pm_M174 (pc_q := 6) rfl rfl rfl ?_
    refine pm_R_lo pm_M174 (pc_q := 7) rfl rfl rfl ?_
    refine pm_R_icmp pm_M174 (t := 14) (pc_q := 10) rfl rfl rfl (fun c22 => ?_) (fun c22 => ?_)
    · skip
      refine pm_R_op pm_M174 (pc_q := 15) (st_q := [.int 0]) rfl rfl rfl ?_
      refine pm_R_ret pm_M174 (r := some (.int 0)) rfl rfl ?_
      show pm_R _ 177 13 [.ref 41, .int 1, .int a2] [.int 0] _ _
      refine pm_R_ret pm_M177 (r := some (.int 0)) rfl rfl ?_
      show pm_R _ 288 11 [.ref 41, .int a0, .int a1, .int a2, pm_no, pm_no, pm_no] [.int 0] _ _
      refine pm_R_br pm_M288 (pc_q := 39) (st_q := []) rfl rfl ?_
      refine pm_R_op pm_M288 (pc_q := 40) (st_q := [.int (-1)]) rfl rfl rfl ?_
      exact pm_R_ret pm_M288 (r := some (.int (-1))) rfl rfl (K (-1) m4 w h1 T2 F6 W9 (sf_weak sf_kn1 (by decide) (by decide)))
    · have V23 := rf_V.mk e11 ez14 e17 (Int32.not_lt.mp c22) B21 (by decide)
      have V23 := V23.back F6 (by decide)
      have B24 : sf_B 0 2 a2 := sf_leL (Int32.not_lt.mp c22) B21 B18
      have B25 : sf_B 0 2 z16 := sf_leR (Int32.not_lt.mp c22) B21 B18
      refine pm_R_op pm_M174 (pc_q := 11) (st_q := [.int 1]) rfl rfl rfl ?_
      refine pm_R_br pm_M174 (pc_q := 15) rfl rfl ?_
      refine pm_R_ret pm_M174 (r := some (.int 1)) rfl rfl ?_
      show pm_R _ 177 13 [.ref 41, .int 1, .int a2] [.int 1] _ _
      refine pm_R_ret pm_M177 (r := some (.int 1)) rfl rfl ?_
      show pm_R _ 288 11 [.ref 41, .int a0, .int a1, .int a2, pm_no, pm_no, pm_no] [.int 1] _ _
      refine pm_R_br pm_M288 (pc_q := 14) (st_q := []) rfl rfl ?_
      refine pm_R_lo pm_M288 (pc_q := 15) rfl rfl rfl ?_
      refine pm_R_lo pm_M288 (pc_q := 16) rfl rfl rfl ?_
      refine pm_R_lo pm_M288 (pc_q := 17) rfl rfl rfl ?_
      refine pm_R_cv pm_M288 (pc_q := 20) (a := 41) (ra := [.int a1, .int a0]) (rest := []) (ls_q := [.ref 41, .int a0, .int a1]) rfl rfl (Or.inl rfl) pm_M200 T2.2.1 rfl (by decide) (Nat.lt_of_lt_of_le (by decide) T2.1) rfl rfl (Nat.le_of_ble_eq_true rfl) rfl rfl ?_
      refine pm_R_lo pm_M200 (pc_q := 1) rfl rfl rfl ?_
      refine pm_R_op pm_M200 (pc_q := 2) (st_q := [.int 0, .ref 41]) rfl rfl rfl ?_
      refine pm_R_lo pm_M200 (pc_q := 3) rfl rfl rfl ?_
      refine pm_R_cv pm_M200 (pc_q := 6) (a := 41) (ra := [.int a0, .int 0]) (rest := []) (ls_q := [.ref 41, .int 0, .int a0]) rfl rfl (Or.inl rfl) pm_M177 T2.2.1 rfl (by decide) (Nat.lt_of_lt_of_le (by decide) T2.1) rfl rfl (Nat.le_of_ble_eq_true rfl) rfl rfl ?_
      refine pm_R_lo pm_M177 (pc_q := 1) rfl rfl rfl ?_
      refine pm_R_op pm_M177 (pc_q := 2) (st_q := [.int 0, .int a0]) rfl rfl rfl ?_
      refine pm_R_lo pm_M177 (pc_q := 3) rfl rfl rfl ?_
      refine rf_R_get pm_M177 T2 (pc_q := 6) (v := .ref 46) rfl rfl rfl rfl ?_
      refine pm_R_lo pm_M177 (pc_q := 7) rfl rfl rfl ?_
      refine rf_R_ild pm_M177 T2 (pc_q := 8) rfl e11 (by decide) rfl rfl (fun z26 ez27 => ?_)
      have B28 : sf_B 0 2 z26 := ez27 ▸ (b12 0)
      refine pm_R_op pm_M177 (pc_q := 9) (st_q := [.int 1, .int z26, .int 0, .int a0]) rfl rfl rfl ?_
      refine sf_R_isub pm_M177 (pc_q := 10) rfl rfl B28 sf_k1 (by decide) (by decide) (fun z29 e30 B31 => ?_)
      refine pm_R_cs pm_M177 (pc_q := 13) (ra := [.int z29, .int 0, .int a0]) (rest := []) (ls_q := [.int a0, .int 0, .int z29]) rfl rfl (Or.inl rfl) pm_M174 rfl rfl (Nat.le_of_ble_eq_true rfl) rfl rfl ?_
      refine pm_R_lo pm_M174 (pc_q := 1) rfl rfl rfl ?_
      refine pm_R_lo pm_M174 (pc_q := 2) rfl rfl rfl ?_
      refine pm_R_icmp pm_M174 (t := 14) (pc_q := 5) rfl rfl rfl (fun c32 => ?_) (fun c32 => ?_)
      · have B33 : sf_B (-2147483648) (-1) a0 := sf_ltL c32 (sf_any a0) sf_k0
        refine pm_R_op pm_M174 (pc_q := 15) (st_q := [.int 0]) rfl rfl rfl ?_
        refine pm_R_ret pm_M174 (r := some (.int 0)) rfl rfl ?_
        show pm_R _ 177 13 [.ref 41, .int 0, .int a0] [.int 0] _ _
        refine pm_R_ret pm_M177 (r := some (.int 0)) rfl rfl ?_
        show pm_R _ 200 6 [.ref 41, .int a0, .int a1] [.int 0] _ _
        refine pm_R_br pm_M200 (pc_q := 18) (st_q := []) rfl rfl ?_
        refine pm_R_op pm_M200 (pc_q := 19) (st_q := [.int 0]) rfl rfl rfl ?_
        refine pm_R_ret pm_M200 (r := some (.int 0)) rfl rfl ?_
        show pm_R _ 288 20 [.ref 41, .int a0, .int a1, .int a2, pm_no, pm_no, pm_no] [.int 0] _ _
        refine pm_R_br pm_M288 (pc_q := 39) (st_q := []) rfl rfl ?_
        refine pm_R_op pm_M288 (pc_q := 40) (st_q := [.int (-1)]) rfl rfl rfl ?_
        exact pm_R_ret pm_M288 (r := some (.int (-1))) rfl rfl (K (-1) m4 w h1 T2 F6 W9 (sf_weak sf_kn1 (by decide) (by decide)))
      · have B34 : sf_B 0 2147483647 a0 := sf_leR (Int32.not_lt.mp c32) sf_k0 (sf_any a0)
        refine pm_R_lo pm_M174 (pc_q := 6) rfl rfl rfl ?_
        refine pm_R_lo pm_M174 (pc_q := 7) rfl rfl rfl ?_
        refine pm_R_icmp pm_M174 (t := 14) (pc_q := 10) rfl rfl rfl (fun c35 => ?_) (fun c35 => ?_)
        · skip
          refine pm_R_op pm_M174 (pc_q := 15) (st_q := [.int 0]) rfl rfl rfl ?_
          refine pm_R_ret pm_M174 (r := some (.int 0)) rfl rfl ?_
          show pm_R _ 177 13 [.ref 41, .int 0, .int a0] [.int 0] _ _
          refine pm_R_ret pm_M177 (r := some (.int 0)) rfl rfl ?_
          show pm_R _ 200 6 [.ref 41, .int a0, .int a1] [.int 0] _ _
          refine pm_R_br pm_M200 (pc_q := 18) (st_q := []) rfl rfl ?_
          refine pm_R_op pm_M200 (pc_q := 19) (st_q := [.int 0]) rfl rfl rfl ?_
          refine pm_R_ret pm_M200 (r := some (.int 0)) rfl rfl ?_
          show pm_R _ 288 20 [.ref 41, .int a0, .int a1, .int a2, pm_no, pm_no, pm_no] [.int 0] _ _
          refine pm_R_br pm_M288 (pc_q := 39) (st_q := []) rfl rfl ?_
          refine pm_R_op pm_M288 (pc_q := 40) (st_q := [.int (-1)]) rfl rfl rfl ?_
          exact pm_R_ret pm_M288 (r := some (.int (-1))) rfl rfl (K (-1) m4 w h1 T2 F6 W9 (sf_weak sf_kn1 (by decide) (by decide)))
        · have B36 : sf_B 0 1 a0 := sf_leL (Int32.not_lt.mp c35) B34 B31
          have B37 : sf_B 0 1 z29 := sf_leR (Int32.not_lt.mp c35) B34 B31
          refine pm_R_op pm_M174 (pc_q := 11) (st_q := [.int 1]) rfl rfl rfl ?_
          refine pm_R_br pm_M174 (pc_q := 15) rfl rfl ?_
          refine pm_R_ret pm_M174 (r := some (.int 1)) rfl rfl ?_
          show pm_R _ 177 13 [.ref 41, .int 0, .int a0] [.int 1] _ _
          refine pm_R_ret pm_M177 (r := some (.int 1)) rfl rfl ?_
          show pm_R _ 200 6 [.ref 41, .int a0, .int a1] [.int 1] _ _
          refine pm_R_br pm_M200 (pc_q := 9) (st_q := []) rfl rfl ?_
          refine pm_R_lo pm_M200 (pc_q := 10) rfl rfl rfl ?_
          refine pm_R_op pm_M200 (pc_q := 11) (st_q := [.int 1, .ref 41]) rfl rfl rfl ?_
          refine pm_R_lo pm_M200 (pc_q := 12) rfl rfl rfl ?_
          refine pm_R_cv pm_M200 (pc_q := 15) (a := 41) (ra := [.int a1, .int 1]) (rest := []) (ls_q := [.ref 41, .int 1, .int a1]) rfl rfl (Or.inl rfl) pm_M177 T2.2.1 rfl (by decide) (Nat.lt_of_lt_of_le (by decide) T2.1) rfl rfl (Nat.le_of_ble_eq_true rfl) rfl rfl ?_
          refine pm_R_lo pm_M177 (pc_q := 1) rfl rfl rfl ?_
          refine pm_R_op pm_M177 (pc_q := 2) (st_q := [.int 0, .int a1]) rfl rfl rfl ?_
          refine pm_R_lo pm_M177 (pc_q := 3) rfl rfl rfl ?_
          refine rf_R_get pm_M177 T2 (pc_q := 6) (v := .ref 46) rfl rfl rfl rfl ?_
          refine pm_R_lo pm_M177 (pc_q := 7) rfl rfl rfl ?_
          refine pm_R_iald pm_M177 (pc_q := 8) (v := z13) rfl e11 (Nat.lt_of_lt_of_le (by decide) T2.1) rfl ez14 rfl ?_
          refine pm_R_op pm_M177 (pc_q := 9) (st_q := [.int 1, .int z13, .int 0, .int a1]) rfl rfl rfl ?_
          refine sf_R_isubV pm_M177 (pc_q := 10) rfl rfl B15 sf_k1 (by decide) (by decide) e17 ?_
          refine pm_R_cs pm_M177 (pc_q := 13) (ra := [.int z16, .int 0, .int a1]) (rest := []) (ls_q := [.int a1, .int 0, .int z16]) rfl rfl (Or.inl rfl) pm_M174 rfl rfl (Nat.le_of_ble_eq_true rfl) rfl rfl ?_
          refine pm_R_lo pm_M174 (pc_q := 1) rfl rfl rfl ?_
          refine pm_R_lo pm_M174 (pc_q := 2) rfl rfl rfl ?_
          refine pm_R_icmp pm_M174 (t := 14) (pc_q := 5) rfl rfl rfl (fun c40 => ?_) (fun c40 => ?_)
          · have B41 : sf_B (-2147483648) (-1) a1 := sf_ltL c40 (sf_any a1) sf_k0
            refine pm_R_op pm_M174 (pc_q := 15) (st_q := [.int 0]) rfl rfl rfl ?_
            refine pm_R_ret pm_M174 (r := some (.int 0)) rfl rfl ?_
            show pm_R _ 177 13 [.ref 41, .int 1, .int a1] [.int 0] _ _
            refine pm_R_ret pm_M177 (r := some (.int 0)) rfl rfl ?_
            show pm_R _ 200 15 [.ref 41, .int a0, .int a1] [.int 0] _ _
            refine pm_R_br pm_M200 (pc_q := 18) (st_q := []) rfl rfl ?_
            refine pm_R_op pm_M200 (pc_q := 19) (st_q := [.int 0]) rfl rfl rfl ?_
            refine pm_R_ret pm_M200 (r := some (.int 0)) rfl rfl ?_
            show pm_R _ 288 20 [.ref 41, .int a0, .int a1, .int a2, pm_no, pm_no, pm_no] [.int 0] _ _
            refine pm_R_br pm_M288 (pc_q := 39) (st_q := []) rfl rfl ?_
            refine pm_R_op pm_M288 (pc_q := 40) (st_q := [.int (-1)]) rfl rfl rfl ?_
            exact pm_R_ret pm_M288 (r := some (.int (-1))) rfl rfl (K (-1) m4 w h1 T2 F6 W9 (sf_weak sf_kn1 (by decide) (by decide)))
          · have B42 : sf_B 0 2147483647 a1 := sf_leR (Int32.not_lt.mp c40) sf_k0 (sf_any a1)
            refine pm_R_lo pm_M174 (pc_q := 6) rfl rfl rfl ?_
            refine pm_R_lo pm_M174 (pc_q := 7) rfl rfl rfl ?_
            refine pm_R_icmp pm_M174 (t := 14) (pc_q := 10) rfl rfl rfl (fun c43 => ?_) (fun c43 => ?_)
            · have B44 : sf_B 1 2147483647 a1 := sf_ltR c43 B25 B42
              refine pm_R_op pm_M174 (pc_q := 15) (st_q := [.int 0]) rfl rfl rfl ?_
              refine pm_R_ret pm_M174 (r := some (.int 0)) rfl rfl ?_
              show pm_R _ 177 13 [.ref 41, .int 1, .int a1] [.int 0] _ _
              refine pm_R_ret pm_M177 (r := some (.int 0)) rfl rfl ?_
              show pm_R _ 200 15 [.ref 41, .int a0, .int a1] [.int 0] _ _
              refine pm_R_br pm_M200 (pc_q := 18) (st_q := []) rfl rfl ?_
              refine pm_R_op pm_M200 (pc_q := 19) (st_q := [.int 0]) rfl rfl rfl ?_
              refine pm_R_ret pm_M200 (r := some (.int 0)) rfl rfl ?_
              show pm_R _ 288 20 [.ref 41, .int a0, .int a1, .int a2, pm_no, pm_no, pm_no] [.int 0] _ _
              refine pm_R_br pm_M288 (pc_q := 39) (st_q := []) rfl rfl ?_
              refine pm_R_op pm_M288 (pc_q := 40) (st_q := [.int (-1)]) rfl rfl rfl ?_
              exact pm_R_ret pm_M288 (r := some (.int (-1))) rfl rfl (K (-1) m4 w h1 T2 F6 W9 (sf_weak sf_kn1 (by decide) (by decide)))
            · have V45 := rf_V.mk e11 ez14 e17 (Int32.not_lt.mp c43) B42 (by decide)
              have V45 := V45.back F6 (by decide)
              have B46 : sf_B 0 2 a1 := sf_leL (Int32.not_lt.mp c43) B42 B25
              refine pm_R_op pm_M174 (pc_q := 11) (st_q := [.int 1]) rfl rfl rfl ?_
              refine pm_R_br pm_M174 (pc_q := 15) rfl rfl ?_
              refine pm_R_ret pm_M174 (r := some (.int 1)) rfl rfl ?_
              show pm_R _ 177 13 [.ref 41, .int 1, .int a1] [.int 1] _ _
              refine pm_R_ret pm_M177 (r := some (.int 1)) rfl rfl ?_
              show pm_R _ 200 15 [.ref 41, .int a0, .int a1] [.int 1] _ _
              refine pm_R_br pm_M200 (pc_q := 20) (st_q := []) rfl rfl ?_
              refine pm_R_lo pm_M200 (pc_q := 21) rfl rfl rfl ?_
              refine pm_R_lo pm_M200 (pc_q := 22) rfl rfl rfl ?_
              refine pm_R_lo pm_M200 (pc_q := 23) rfl rfl rfl ?_
              refine pm_R_cv pm_M200 (pc_q := 26) (a := 41) (ra := [.int a1, .int a0]) (rest := []) (ls_q := [.ref 41, .int a0, .int a1, pm_no]) rfl rfl (Or.inl rfl) pm_M201 T2.2.1 rfl (by decide) (Nat.lt_of_lt_of_le (by decide) T2.1) rfl rfl (Nat.le_of_ble_eq_true rfl) rfl rfl ?_
              refine rf_c201 (d := d + 1) T2 B36 B46 (V45.F F6 (by decide)) (fun m49 w50 h51 T52 F53 W54 X55 B56 => ?_)
              have F57 := F6.trans F53 (by decide)
              have W58 : rf_W [0, 23, 24, 26] m m49 := W9.trans W54 (by decide)
              show pm_R _ 200 26 [.ref 41, .int a0, .int a1] [] _ _
              refine pm_R_op pm_M200 (pc_q := 27) (st_q := [.int 1]) rfl rfl rfl ?_
              refine pm_R_ret pm_M200 (r := some (.int 1)) rfl rfl ?_
              show pm_R _ 288 20 [.ref 41, .int a0, .int a1, .int a2, pm_no, pm_no, pm_no] [.int 1] _ _
              refine pm_R_br pm_M288 (pc_q := 23) (st_q := []) rfl rfl ?_
              refine pm_R_lo pm_M288 (pc_q := 24) rfl rfl rfl ?_
              refine rf_R_get pm_M288 T52 (pc_q := 27) (v := .ref 48) rfl rfl rfl rfl ?_
              refine pm_R_op pm_M288 (pc_q := 29) (st_q := [.int 13, .ref 48]) rfl rfl rfl ?_
              refine pm_R_lo pm_M288 (pc_q := 30) rfl rfl rfl ?_
              refine sf_R_imul pm_M288 (pc_q := 31) rfl rfl sf_k13 B24 (by decide) (by decide) (by decide) (fun z59 e60 B61 => ?_)
              obtain ⟨f62, e63, b64⟩ := T52.2.2.2.1 48 (by decide) (by decide)
              refine rf_R_ild pm_M288 T52 (pc_q := 32) rfl e63 (by decide) (sf_in B61 (by decide) (by decide)) rfl (fun z65 ez66 => ?_)
              have e67 : (z59).toInt = 13 * (a2).toInt + 0 := (sf_aux13 _ _ e60)
              have B68 : sf_B 1 12 z65 := ez66 ▸ rf_p48v T52 e63 (V23.F F57 (by decide)) e67
              refine pm_R_lo pm_M288 (pc_q := 33) rfl rfl rfl ?_
              refine rf_R_get pm_M288 T52 (pc_q := 36) (v := .int (m49 24)) rfl rfl rfl rfl ?_
              refine pm_R_icmp pm_M288 (t := 41) (pc_q := 39) rfl rfl rfl (fun c69 => ?_) (fun c69 => ?_)
              · refine pm_R_op pm_M288 (pc_q := 42) (st_q := [.int 0]) rfl rfl rfl ?_
                refine pm_R_lo pm_M288 (pc_q := 44) (ls_q := [.ref 41, .int a0, .int a1, .int a2, .int 0, pm_no, pm_no]) (st_q := []) rfl rfl rfl ?_
                have L_2162 : ∀ (N : Nat) (h_2162 : pm_H) (m_2162 : Nat → Int32) (w_2162 : Int64) (x4_2162 : Int32) (g5_2162 : Value) (g6_2162 : Value), rf_T m_2162 w_2162 h_2162 → rf_G [41, 53] h h_2162 → rf_W [] m49 m_2162 → sf_B 0 10 x4_2162 → g5_2162.category = 1 → g6_2162.category = 1 → (10 - x4_2162.toInt).toNat = N → pm_R (d + 3) 288 44 [.ref 41, .int a0, .int a1, .int a2, .int x4_2162, g5_2162, g6_2162] [] h_2162 Q := by
                  intro N
                  induction N using Nat.strongRecOn with
                  | ind N ih_2162 =>
                    intro h_2162 m_2162 w_2162 x4_2162 g5_2162 g6_2162 T_2162 F_2162 W_2162 Bx4_2162 Cg5_2162 Cg6_2162 hN_2162
                    have B2165 : sf_B 1 12 (m_2162 24) := by rw [W_2162 24 (by decide)]; exact B56
                    have W2166 : rf_W [0, 23, 24, 26] m m_2162 := W58.trans W_2162 (by decide)
                    refine pm_R_lo pm_M288 (pc_q := 46) rfl rfl rfl ?_
                    refine pm_R_op pm_M288 (pc_q := 48) (st_q := [.int 9, .int x4_2162]) rfl rfl rfl ?_
                    refine pm_R_icmp pm_M288 (t := 131) (pc_q := 51) rfl rfl rfl (fun c2167 => ?_) (fun c2167 => ?_)
                    · have B2168 : sf_B 10 10 x4_2162 := sf_ltR c2167 sf_k9 Bx4_2162
                      refine pm_R_op pm_M288 (pc_q := 132) (st_q := [.int (-1)]) (pm_q288_1 (Nat.le_of_ble_eq_true rfl)) rfl rfl ?_
                      exact pm_R_ret pm_M288 (r := some (.int (-1))) (pm_q288_1 (Nat.le_of_ble_eq_true rfl)) rfl (K (-1) m_2162 w_2162 h_2162 T_2162 F_2162 W2166 (sf_weak sf_kn1 (by decide) (by decide)))
                    · have B2169 : sf_B 0 9 x4_2162 := sf_leL (Int32.not_lt.mp c2167) Bx4_2162 sf_k9
                      refine pm_R_op pm_M288 (pc_q := 52) (st_q := [.int 1]) rfl rfl rfl ?_
                      refine pm_R_lo pm_M288 (pc_q := 54) (ls_q := [.ref 41, .int a0, .int a1, .int a2, .int x4_2162, .int 1, g6_2162]) (st_q := []) rfl rfl rfl ?_
                      refine pm_R_op pm_M288 (pc_q := 55) (st_q := [.int 0]) rfl rfl rfl ?_
                      refine pm_R_lo pm_M288 (pc_q := 57) (ls_q := [.ref 41, .int a0, .int a1, .int a2, .int x4_2162, .int 1, .int 0]) (st_q := []) rfl rfl rfl ?_
                      have L_2517 : ∀ (N : Nat) (x5_2517 : Int32) (x6_2517 : Int32), sf_B 0 1 x5_2517 → sf_B 0 12 x6_2517 → (12 - x6_2517.toInt).toNat = N → pm_R (d + 3) 288 57 [.ref 41, .int a0, .int a1, .int a2, .int x4_2162, .int x5_2517, .int x6_2517] [] h_2162 Q := by
                        intro N
                        induction N using Nat.strongRecOn with
                        | ind N ih_2517 =>
                          intro x5_2517 x6_2517 Bx5_2517 Bx6_2517 hN_2517
                          refine pm_R_lo pm_M288 (pc_q := 59) rfl rfl rfl ?_
                          refine pm_R_lo pm_M288 (pc_q := 60) rfl rfl rfl ?_
                          refine rf_R_get pm_M288 T_2162 (pc_q := 63) (v := .int (m_2162 24)) rfl rfl rfl rfl ?_
                          refine pm_R_icmp pm_M288 (t := 112) (pc_q := 66) rfl rfl rfl (fun c2518 => ?_) (fun c2518 => ?_)
                          · have B2519 : sf_B 1 12 x6_2517 := sf_leR c2518 B2165 Bx6_2517
                            refine pm_R_lo pm_M288 (pc_q := 114) (pm_q288_1 (Nat.le_of_ble_eq_true rfl)) rfl rfl ?_
                            refine pm_R_ifc pm_M288 (t := 120) (pc_q := 117) (pm_q288_1 (Nat.le_of_ble_eq_true rfl)) rfl rfl (fun c2520 => ?_) (fun c2520 => ?_)
                            · have B2521 : sf_B 0 0 x5_2517 := sf_eqL c2520 sf_k0
                              refine pm_R_lo pm_M288 (pc_q := 121) (pm_q288_1 (Nat.le_of_ble_eq_true rfl)) rfl rfl ?_
                              refine pm_R_op pm_M288 (pc_q := 122) (st_q := [.int 1, .ref 41]) (pm_q288_1 (Nat.le_of_ble_eq_true rfl)) rfl rfl ?_
                              refine pm_R_cv pm_M288 (pc_q := 125) (a := 41) (ra := [.int 1]) (rest := []) (ls_q := [.ref 41, .int 1, pm_no, pm_no, pm_no, pm_no]) (pm_q288_1 (Nat.le_of_ble_eq_true rfl)) rfl (Or.inl rfl) pm_M235 T_2162.2.1 rfl (by decide) (Nat.lt_of_lt_of_le (by decide) T_2162.1) rfl rfl (Nat.le_of_ble_eq_true rfl) rfl rfl ?_
                              refine rf_c235 (d := d + 1) T_2162 (sf_weak sf_k1 (by decide) (by decide)) (fun m2524 w2525 h2526 T2527 F2528 W2529 => ?_)
                              have F2530 := F_2162.trans F2528 (by decide)
                              have B2531 : sf_B 1 12 (m2524 24) := by rw [W2529 24 (by decide)]; exact B2165
                              have W2532 : rf_W [0, 23, 24, 26] m m2524 := W2166.trans W2529 (by decide)
                              have W2533 : rf_W [] m49 m2524 := W_2162.trans W2529 (by decide)
                              show pm_R _ 288 125 [.ref 41, .int a0, .int a1, .int a2, .int x4_2162, .int x5_2517, .int x6_2517] [] _ _
                              refine sf_R_iinc pm_M288 (pc_q := 128) (ls_q := fun z => [.ref 41, .int a0, .int a1, .int a2, .int z, .int x5_2517, .int x6_2517]) (pm_q288_1 (Nat.le_of_ble_eq_true rfl)) B2169 rfl (by decide) (by decide) (by decide) (fun _ => rfl) rfl (fun z2534 e2535 B2536 => ?_)
                              show pm_R _ 288 128 [.ref 41, .int a0, .int a1, .int a2, .int z2534, .int x5_2517, .int x6_2517] [] _ _
                              refine pm_R_br pm_M288 (pc_q := 44) (pm_q288_1 (Nat.le_of_ble_eq_true rfl)) rfl ?_
                              exact ih_2162 _ (sf_up hN_2162 e2535 B2169 (by decide) (by decide)) h2526 m2524 w2525 z2534 (.int x5_2517) (.int x6_2517) T2527 F2530 W2533 (sf_weak B2536 (by decide) (by decide)) rfl rfl rfl
                            · have B2537 : sf_B 1 1 x5_2517 := sf_neL0 c2520 sf_k0 Bx5_2517
                              refine pm_R_lo pm_M288 (pc_q := 119) (pm_q288_1 (Nat.le_of_ble_eq_true rfl)) rfl rfl ?_
                              exact pm_R_ret pm_M288 (r := some (.int x4_2162)) (pm_q288_1 (Nat.le_of_ble_eq_true rfl)) (pm_ret_i _) (K x4_2162 m_2162 w_2162 h_2162 T_2162 F_2162 W2166 (sf_weak B2169 (by decide) (by decide)))
                          · have B2538 : sf_B 0 11 x6_2517 := sf_ltL (Int32.not_le.mp c2518) Bx6_2517 B2165
                            refine pm_R_lo pm_M288 (pc_q := 68) rfl rfl rfl ?_
                            refine pm_R_ifc pm_M288 (t := 103) (pc_q := 71) rfl rfl rfl (fun c2539 => ?_) (fun c2539 => ?_)
                            · have B2540 : sf_B 0 0 x5_2517 := sf_eqL c2539 sf_k0
                              refine pm_R_op pm_M288 (pc_q := 104) (st_q := [.int 0]) rfl rfl rfl ?_
                              refine pm_R_lo pm_M288 (pc_q := 106) (ls_q := [.ref 41, .int a0, .int a1, .int a2, .int x4_2162, .int 0, .int x6_2517]) (st_q := []) rfl rfl rfl ?_
                              refine sf_R_iinc pm_M288 (pc_q := 109) (ls_q := fun z => [.ref 41, .int a0, .int a1, .int a2, .int x4_2162, .int 0, .int z]) (pm_q288_1 (Nat.le_of_ble_eq_true rfl)) B2538 rfl (by decide) (by decide) (by decide) (fun _ => rfl) rfl (fun z2541 e2542 B2543 => ?_)
                              show pm_R _ 288 109 [.ref 41, .int a0, .int a1, .int a2, .int x4_2162, .int 0, .int z2541] [] _ _
                              refine pm_R_br pm_M288 (pc_q := 57) (pm_q288_1 (Nat.le_of_ble_eq_true rfl)) rfl ?_
                              exact ih_2517 _ (sf_up hN_2517 e2542 B2538 (by decide) (by decide)) 0 z2541 (sf_weak sf_k0 (by decide) (by decide)) (sf_weak B2543 (by decide) (by decide)) rfl
                            · have B2544 : sf_B 1 1 x5_2517 := sf_neL0 c2539 sf_k0 Bx5_2517
                              refine pm_R_lo pm_M288 (pc_q := 72) rfl rfl rfl ?_
                              refine rf_R_get pm_M288 T_2162 (pc_q := 75) (v := .ref 53) rfl rfl rfl rfl ?_
                              refine pm_R_lo pm_M288 (pc_q := 77) rfl rfl rfl ?_
                              obtain ⟨f2545, e2546⟩ := T_2162.2.2.2.1 53 (by decide) (by decide)
                              refine rf_R_ild pm_M288 T_2162 (pc_q := 78) rfl e2546 (by decide) (sf_in B2538 (by decide) (by decide)) rfl (fun z2548 ez2549 => ?_)
                              refine sf_R_lany pm_M288 (pc_q := 79) (st := []) rfl rfl rfl (fun z2550 => ?_)
                              refine pm_R_lo pm_M288 (pc_q := 80) rfl rfl rfl ?_
                              refine rf_R_get pm_M288 T_2162 (pc_q := 83) (v := .ref 48) rfl rfl rfl rfl ?_
                              refine pm_R_op pm_M288 (pc_q := 85) (st_q := [.int 13, .ref 48, .long z2550]) rfl rfl rfl ?_
                              refine pm_R_lo pm_M288 (pc_q := 86) rfl rfl rfl ?_
                              refine sf_R_imulV pm_M288 (pc_q := 87) rfl rfl sf_k13 B24 (by decide) (by decide) (by decide) e60 ?_
                              refine pm_R_op pm_M288 (pc_q := 88) (st_q := [.int 1, .int z59, .ref 48, .long z2550]) rfl rfl rfl ?_
                              refine sf_R_iadd pm_M288 (pc_q := 89) rfl rfl B61 sf_k1 (by decide) (by decide) (fun z2551 e2552 B2553 => ?_)
                              refine pm_R_lo pm_M288 (pc_q := 91) rfl rfl rfl ?_
                              refine sf_R_iadd pm_M288 (pc_q := 92) rfl rfl B2553 B2538 (by decide) (by decide) (fun z2554 e2555 B2556 => ?_)
                              obtain ⟨f2557, e2558, b2559⟩ := T_2162.2.2.2.1 48 (by decide) (by decide)
                              refine rf_R_ild pm_M288 T_2162 (pc_q := 93) rfl e2558 (by decide) (sf_in B2556 (by decide) (by decide)) rfl (fun z2560 ez2561 => ?_)
                              have e2562 : (z2554).toInt = 13 * (a2).toInt + 1 * (x6_2517).toInt + 1 := (sf_aux14 _ _ _ _ _ e60 e2552 e2555)
                              have B2563 : sf_B 0 9 z2560 := ez2561 ▸ rf_p48s b2559 e2562 B24 B2538 (by decide) (by decide) (by decide)
                              refine pm_R_cs pm_M288 (pc_q := 96) (ra := [.int z2560, .long z2550]) (rest := []) (ls_q := [.long z2550, pm_no, .int z2560]) rfl rfl (Or.inl rfl) pm_M206 rfl rfl (Nat.le_of_ble_eq_true rfl) rfl rfl ?_
                              refine pm_R_lo pm_M206 (pc_q := 1) rfl rfl rfl ?_
                              refine pm_R_lo pm_M206 (pc_q := 2) rfl rfl rfl ?_
                              refine sf_R_lany pm_M206 (pc_q := 3) (st := []) rfl rfl rfl (fun z2564 => ?_)
                              refine pm_R_op pm_M206 (pc_q := 4) (st_q := [.long 1, .long z2564]) rfl rfl rfl ?_
                              refine sf_R_lany pm_M206 (pc_q := 5) (st := []) rfl rfl rfl (fun z2565 => ?_)
                              refine pm_R_op pm_M206 (pc_q := 6) (st_q := [.long 1, .long z2565]) rfl rfl rfl ?_
                              refine sf_R_lcmp pm_M206 (pc_q := 7) rfl rfl (fun z2566 e2567 => ?_)
                              refine pm_R_ifc pm_M206 (t := 14) (pc_q := 10) rfl rfl rfl (fun c2568 => ?_) (fun c2568 => ?_)
                              · have k2569 := sf_lneC e2567 c2568
                                refine pm_R_op pm_M206 (pc_q := 15) (st_q := [.int 0]) rfl rfl rfl ?_
                                refine pm_R_ret pm_M206 (r := some (.int 0)) rfl rfl ?_
                                show pm_R _ 288 96 [.ref 41, .int a0, .int a1, .int a2, .int x4_2162, .int x5_2517, .int x6_2517] [.int 0] _ _
                                refine pm_R_br pm_M288 (pc_q := 103) (st_q := []) rfl rfl ?_
                                refine pm_R_op pm_M288 (pc_q := 104) (st_q := [.int 0]) rfl rfl rfl ?_
                                refine pm_R_lo pm_M288 (pc_q := 106) (ls_q := [.ref 41, .int a0, .int a1, .int a2, .int x4_2162, .int 0, .int x6_2517]) (st_q := []) rfl rfl rfl ?_
                                refine sf_R_iinc pm_M288 (pc_q := 109) (ls_q := fun z => [.ref 41, .int a0, .int a1, .int a2, .int x4_2162, .int 0, .int z]) (pm_q288_1 (Nat.le_of_ble_eq_true rfl)) B2538 rfl (by decide) (by decide) (by decide) (fun _ => rfl) rfl (fun z2570 e2571 B2572 => ?_)
                                show pm_R _ 288 109 [.ref 41, .int a0, .int a1, .int a2, .int x4_2162, .int 0, .int z2570] [] _ _
                                refine pm_R_br pm_M288 (pc_q := 57) (pm_q288_1 (Nat.le_of_ble_eq_true rfl)) rfl ?_
                                exact ih_2517 _ (sf_up hN_2517 e2571 B2538 (by decide) (by decide)) 0 z2570 (sf_weak sf_k0 (by decide) (by decide)) (sf_weak B2572 (by decide) (by decide)) rfl
                              · have B2573 : sf_B 0 0 z2566 := sf_eqL (Classical.not_not.mp c2568) sf_k0
                                have B2574 : lf_B 1 1 z2565 := lf_eqB e2567 B2573 (⟨by decide, by decide⟩ : lf_B 1 1 1)
                                refine pm_R_op pm_M206 (pc_q := 11) (st_q := [.int 1]) rfl rfl rfl ?_
                                refine pm_R_br pm_M206 (pc_q := 15) rfl rfl ?_
                                refine pm_R_ret pm_M206 (r := some (.int 1)) rfl rfl ?_
                                show pm_R _ 288 96 [.ref 41, .int a0, .int a1, .int a2, .int x4_2162, .int x5_2517, .int x6_2517] [.int 1] _ _
                                refine pm_R_br pm_M288 (pc_q := 99) (st_q := []) rfl rfl ?_
                                refine pm_R_op pm_M288 (pc_q := 100) (st_q := [.int 1]) rfl rfl rfl ?_
                                refine pm_R_br pm_M288 (pc_q := 104) rfl rfl ?_
                                refine pm_R_lo pm_M288 (pc_q := 106) (ls_q := [.ref 41, .int a0, .int a1, .int a2, .int x4_2162, .int 1, .int x6_2517]) (st_q := []) rfl rfl rfl ?_
                                refine sf_R_iinc pm_M288 (pc_q := 109) (ls_q := fun z => [.ref 41, .int a0, .int a1, .int a2, .int x4_2162, .int 1, .int z]) (pm_q288_1 (Nat.le_of_ble_eq_true rfl)) B2538 rfl (by decide) (by decide) (by decide) (fun _ => rfl) rfl (fun z2575 e2576 B2577 => ?_)
                                show pm_R _ 288 109 [.ref 41, .int a0, .int a1, .int a2, .int x4_2162, .int 1, .int z2575] [] _ _
                                refine pm_R_br pm_M288 (pc_q := 57) (pm_q288_1 (Nat.le_of_ble_eq_true rfl)) rfl ?_
                                exact ih_2517 _ (sf_up hN_2517 e2576 B2538 (by decide) (by decide)) 1 z2575 (sf_weak sf_k1 (by decide) (by decide)) (sf_weak B2577 (by decide) (by decide)) rfl
                      exact L_2517 _ 1 0 (sf_weak sf_k1 (by decide) (by decide)) (sf_weak sf_k0 (by decide) (by decide)) rfl
                exact L_2162 _ h51 m49 w50 0 (pm_no) (pm_no) T52 F57 (rf_W.refl _ _) (sf_weak sf_k0 (by decide) (by decide)) rfl rfl rfl
              · skip
                refine pm_R_op pm_M288 (pc_q := 40) (st_q := [.int (-1)]) rfl rfl rfl ?_
                exact pm_R_ret pm_M288 (r := some (.int (-1))) rfl rfl (K (-1) m49 w50 h51 T52 F57 W58 (sf_weak sf_kn1 (by decide) (by decide)))

set_option maxRecDepth 100000 in
set_option maxHeartbeats 4000000 in
/-- SilentTableModel.can -/
theorem rf_c289 {d : Nat} {m : Nat → Int32} {w : Int64} {h : pm_H} {Q : Option Value → pm_H → Prop} {a0 : Int32} {a1 : Int32} {a2 : Int32} {a3 : Int32} (T : rf_T m w h)  (K : ∀ (r : Int32) (m_q : Nat → Int32) (w_q : Int64) (h_q : pm_H), rf_T m_q w_q h_q → rf_G [41, 53, 54] h h_q → rf_W [0, 23, 24, 26] m m_q → Q (some (.int r)) h_q) : pm_R (d + 5) 289 0 [.ref 41, .int a0, .int a1, .int a2, .int a3, pm_no, pm_no] [] h Q := by
  refine pm_R_lo pm_M289 (pc_q := 1) rfl rfl rfl ?_
  refine pm_R_op pm_M289 (pc_q := 2) (st_q := [.int 0, .ref 41]) rfl rfl rfl ?_
  refine rf_R_put pm_M289 T (pc_q := 5) rfl rfl rfl (by decide) rfl rfl sf_k0 rfl rfl (fun h1 m4 em5 T2 F3 => ?_)
  have F6 := (rf_G.refl [41, 53, 54] h).trans F3 (by decide)
  have B7 : sf_B 0 0 (m4 0) := by rw [em5]; exact sf_k0
  have W9 : rf_W [0, 23, 24, 26] m m4 := by rw [em5]; exact (rf_W.refl [0, 23, 24, 26] m).put (by decide)
  refine pm_R_lo pm_M289 (pc_q := 6) rfl rfl rfl ?_
  refine pm_R_lo pm_M289 (pc_q := 7) rfl rfl rfl ?_
  refine pm_R_lo pm_M289 (pc_q := 8) rfl rfl rfl ?_
  refine pm_R_cv pm_M289 (pc_q := 11) (a := 41) (ra := [.int a1, .int a0]) (rest := []) (ls_q := [.ref 41, .int a0, .int a1]) rfl rfl (Or.inl rfl) pm_M200 T2.2.1 rfl (by decide) (Nat.lt_of_lt_of_le (by decide) T2.1) rfl rfl (Nat.le_of_ble_eq_true rfl) rfl rfl ?_
  refine pm_R_lo pm_M200 (pc_q := 1) rfl rfl rfl ?_
  refine pm_R_op pm_M200 (pc_q := 2) (st_q := [.int 0, .ref 41]) rfl rfl rfl ?_
  refine pm_R_lo pm_M200 (pc_q := 3) rfl rfl rfl ?_
  refine pm_R_cv pm_M200 (pc_q := 6) (a := 41) (ra := [.int a0, .int 0]) (rest := []) (ls_q := [.ref 41, .int 0, .int a0]) rfl rfl (Or.inl rfl) pm_M177 T2.2.1 rfl (by decide) (Nat.lt_of_lt_of_le (by decide) T2.1) rfl rfl (Nat.le_of_ble_eq_true rfl) rfl rfl ?_
  refine pm_R_lo pm_M177 (pc_q := 1) rfl rfl rfl ?_
  refine pm_R_op pm_M177 (pc_q := 2) (st_q := [.int 0, .int a0]) rfl rfl rfl ?_
  refine pm_R_lo pm_M177 (pc_q := 3) rfl rfl rfl ?_
  refine rf_R_get pm_M177 T2 (pc_q := 6) (v := .ref 46) rfl rfl rfl rfl ?_
  refine pm_R_lo pm_M177 (pc_q := 7) rfl rfl rfl ?_
  obtain ⟨f10, e11, b12⟩ := T2.2.2.2.1 46 (by decide) (by decide)
  refine rf_R_ild pm_M177 T2 (pc_q := 8) rfl e11 (by decide) rfl rfl (fun z13 ez14 => ?_)
  have B15 : sf_B 0 2 z13 := ez14 ▸ (b12 0)
  refine pm_R_op pm_M177 (pc_q := 9) (st_q := [.int 1, .int z13, .int 0, .int a0]) rfl rfl rfl ?_
  refine sf_R_isub pm_M177 (pc_q := 10) rfl rfl B15 sf_k1 (by decide) (by decide) (fun z16 e17 B18 => ?_)
  refine pm_R_cs pm_M177 (pc_q := 13) (ra := [.int z16, .int 0, .int a0]) (rest := []) (ls_q := [.int a0, .int 0, .int z16]) rfl rfl (Or.inl rfl) pm_M174 rfl rfl (Nat.le_of_ble_eq_true rfl) rfl rfl ?_
  refine pm_R_lo pm_M174 (pc_q := 1) rfl rfl rfl ?_
  refine pm_R_lo pm_M174 (pc_q := 2) rfl rfl rfl ?_
  refine pm_R_icmp pm_M174 (t := 14) (pc_q := 5) rfl rfl rfl (fun c19 => ?_) (fun c19 => ?_)
  · have B20 : sf_B (-2147483648) (-1) a0 := sf_ltL c19 (sf_any a0) sf_k0
    refine pm_R_op pm_M174 (pc_q := 15) (st_q := [.int 0]) rfl rfl rfl ?_
    refine pm_R_ret pm_M174 (r := some (.int 0)) rfl rfl ?_
    show pm_R _ 177 13 [.ref 41, .int 0, .int a0] [.int 0] _ _
    refine pm_R_ret pm_M177 (r := some (.int 0)) rfl rfl ?_
    show pm_R _ 200 6 [.ref 41, .int a0, .int a1] [.int 0] _ _
    refine pm_R_br pm_M200 (pc_q := 18) (st_q := []) rfl rfl ?_
    refine pm_R_op pm_M200 (pc_q := 19) (st_q := [.int 0]) rfl rfl rfl ?_
    refine pm_R_ret pm_M200 (r := some (.int 0)) rfl rfl ?_
    show pm_R _ 289 11 [.ref 41, .int a0, .int a1, .int a2, .int a3, pm_no, pm_no] [.int 0] _ _
    refine pm_R_br pm_M289 (pc_q := 43) (st_q := []) rfl rfl ?_
    refine pm_R_op pm_M289 (pc_q := 44) (st_q := [.int (-1)]) rfl rfl rfl ?_
    exact pm_R_ret pm_M289 (r := some (.int (-1))) rfl rfl (K (-1) m4 w h1 T2 F6 W9)
  · have B21 : sf_B 0 2147483647 a0 := sf_leR (Int32.not_lt.mp c19) sf_k0 (sf_any a0)
    refine pm_R_lo pm_M174 (pc_q := 6) rfl rfl rfl ?_
    refine pm_R_lo pm_M174 (pc_q := 7) rfl rfl rfl ?_
    refine pm_R_icmp pm_M174 (t := 14) (pc_q := 10) rfl rfl rfl (fun c22 => ?_) (fun c22 => ?_)
    · skip
      refine pm_R_op pm_M174 (pc_q := 15) (st_q := [.int 0]) rfl rfl rfl ?_
      refine pm_R_ret pm_M174 (r := some (.int 0)) rfl rfl ?_
      show pm_R _ 177 13 [.ref 41, .int 0, .int a0] [.int 0] _ _
      refine pm_R_ret pm_M177 (r := some (.int 0)) rfl rfl ?_
      show pm_R _ 200 6 [.ref 41, .int a0, .int a1] [.int 0] _ _
      refine pm_R_br pm_M200 (pc_q := 18) (st_q := []) rfl rfl ?_
      refine pm_R_op pm_M200 (pc_q := 19) (st_q := [.int 0]) rfl rfl rfl ?_
      refine pm_R_ret pm_M200 (r := some (.int 0)) rfl rfl ?_
      show pm_R _ 289 11 [.ref 41, .int a0, .int a1, .int a2, .int a3, pm_no, pm_no] [.int 0] _ _
      refine pm_R_br pm_M289 (pc_q := 43) (st_q := []) rfl rfl ?_
      refine pm_R_op pm_M289 (pc_q := 44) (st_q := [.int (-1)]) rfl rfl rfl ?_
      exact pm_R_ret pm_M289 (r := some (.int (-1))) rfl rfl (K (-1) m4 w h1 T2 F6 W9)
    · have B23 : sf_B 0 1 a0 := sf_leL (Int32.not_lt.mp c22) B21 B18
      have B24 : sf_B 0 1 z16 := sf_leR (Int32.not_lt.mp c22) B21 B18
      refine pm_R_op pm_M174 (pc_q := 11) (st_q := [.int 1]) rfl rfl rfl ?_
      refine pm_R_br pm_M174 (pc_q := 15) rfl rfl ?_
      refine pm_R_ret pm_M174 (r := some (.int 1)) rfl rfl ?_
      show pm_R _ 177 13 [.ref 41, .int 0, .int a0] [.int 1] _ _
      refine pm_R_ret pm_M177 (r := some (.int 1)) rfl rfl ?_
      show pm_R _ 200 6 [.ref 41, .int a0, .int a1] [.int 1] _ _
      refine pm_R_br pm_M200 (pc_q := 9) (st_q := []) rfl rfl ?_
      refine pm_R_lo pm_M200 (pc_q := 10) rfl rfl rfl ?_
      refine pm_R_op pm_M200 (pc_q := 11) (st_q := [.int 1, .ref 41]) rfl rfl rfl ?_
      refine pm_R_lo pm_M200 (pc_q := 12) rfl rfl rfl ?_
      refine pm_R_cv pm_M200 (pc_q := 15) (a := 41) (ra := [.int a1, .int 1]) (rest := []) (ls_q := [.ref 41, .int 1, .int a1]) rfl rfl (Or.inl rfl) pm_M177 T2.2.1 rfl (by decide) (Nat.lt_of_lt_of_le (by decide) T2.1) rfl rfl (Nat.le_of_ble_eq_true rfl) rfl rfl ?_
      refine pm_R_lo pm_M177 (pc_q := 1) rfl rfl rfl ?_
      refine pm_R_op pm_M177 (pc_q := 2) (st_q := [.int 0, .int a1]) rfl rfl rfl ?_
      refine pm_R_lo pm_M177 (pc_q := 3) rfl rfl rfl ?_
      refine rf_R_get pm_M177 T2 (pc_q := 6) (v := .ref 46) rfl rfl rfl rfl ?_
      refine pm_R_lo pm_M177 (pc_q := 7) rfl rfl rfl ?_
      refine rf_R_ild pm_M177 T2 (pc_q := 8) rfl e11 (by decide) rfl rfl (fun z25 ez26 => ?_)
      have B27 : sf_B 0 3 z25 := ez26 ▸ (b12 1)
      refine pm_R_op pm_M177 (pc_q := 9) (st_q := [.int 1, .int z25, .int 0, .int a1]) rfl rfl rfl ?_
      refine sf_R_isub pm_M177 (pc_q := 10) rfl rfl B27 sf_k1 (by decide) (by decide) (fun z28 e29 B30 => ?_)
      refine pm_R_cs pm_M177 (pc_q := 13) (ra := [.int z28, .int 0, .int a1]) (rest := []) (ls_q := [.int a1, .int 0, .int z28]) rfl rfl (Or.inl rfl) pm_M174 rfl rfl (Nat.le_of_ble_eq_true rfl) rfl rfl ?_
      refine pm_R_lo pm_M174 (pc_q := 1) rfl rfl rfl ?_
      refine pm_R_lo pm_M174 (pc_q := 2) rfl rfl rfl ?_
      refine pm_R_icmp pm_M174 (t := 14) (pc_q := 5) rfl rfl rfl (fun c31 => ?_) (fun c31 => ?_)
      · have B32 : sf_B (-2147483648) (-1) a1 := sf_ltL c31 (sf_any a1) sf_k0
        refine pm_R_op pm_M174 (pc_q := 15) (st_q := [.int 0]) rfl rfl rfl ?_
        refine pm_R_ret pm_M174 (r := some (.int 0)) rfl rfl ?_
        show pm_R _ 177 13 [.ref 41, .int 1, .int a1] [.int 0] _ _
        refine pm_R_ret pm_M177 (r := some (.int 0)) rfl rfl ?_
        show pm_R _ 200 15 [.ref 41, .int a0, .int a1] [.int 0] _ _
        refine pm_R_br pm_M200 (pc_q := 18) (st_q := []) rfl rfl ?_
        refine pm_R_op pm_M200 (pc_q := 19) (st_q := [.int 0]) rfl rfl rfl ?_
        refine pm_R_ret pm_M200 (r := some (.int 0)) rfl rfl ?_
        show pm_R _ 289 11 [.ref 41, .int a0, .int a1, .int a2, .int a3, pm_no, pm_no] [.int 0] _ _
        refine pm_R_br pm_M289 (pc_q := 43) (st_q := []) rfl rfl ?_
        refine pm_R_op pm_M289 (pc_q := 44) (st_q := [.int (-1)]) rfl rfl rfl ?_
        exact pm_R_ret pm_M289 (r := some (.int (-1))) rfl rfl (K (-1) m4 w h1 T2 F6 W9)
      · have B33 : sf_B 0 2147483647 a1 := sf_leR (Int32.not_lt.mp c31) sf_k0 (sf_any a1)
        refine pm_R_lo pm_M174 (pc_q := 6) rfl rfl rfl ?_
        refine pm_R_lo pm_M174 (pc_q := 7) rfl rfl rfl ?_
        refine pm_R_icmp pm_M174 (t := 14) (pc_q := 10) rfl rfl rfl (fun c34 => ?_) (fun c34 => ?_)
        · skip
          refine pm_R_op pm_M174 (pc_q := 15) (st_q := [.int 0]) rfl rfl rfl ?_
          refine pm_R_ret pm_M174 (r := some (.int 0)) rfl rfl ?_
          show pm_R _ 177 13 [.ref 41, .int 1, .int a1] [.int 0] _ _
          refine pm_R_ret pm_M177 (r := some (.int 0)) rfl rfl ?_
          show pm_R _ 200 15 [.ref 41, .int a0, .int a1] [.int 0] _ _
          refine pm_R_br pm_M200 (pc_q := 18) (st_q := []) rfl rfl ?_
          refine pm_R_op pm_M200 (pc_q := 19) (st_q := [.int 0]) rfl rfl rfl ?_
          refine pm_R_ret pm_M200 (r := some (.int 0)) rfl rfl ?_
          show pm_R _ 289 11 [.ref 41, .int a0, .int a1, .int a2, .int a3, pm_no, pm_no] [.int 0] _ _
          refine pm_R_br pm_M289 (pc_q := 43) (st_q := []) rfl rfl ?_
          refine pm_R_op pm_M289 (pc_q := 44) (st_q := [.int (-1)]) rfl rfl rfl ?_
          exact pm_R_ret pm_M289 (r := some (.int (-1))) rfl rfl (K (-1) m4 w h1 T2 F6 W9)
        · have V35 := rf_V.mk e11 ez26 e29 (Int32.not_lt.mp c34) B33 (by decide)
          have V35 := V35.back F6 (by decide)
          have B36 : sf_B 0 2 a1 := sf_leL (Int32.not_lt.mp c34) B33 B30
          have B37 : sf_B 0 2 z28 := sf_leR (Int32.not_lt.mp c34) B33 B30
          refine pm_R_op pm_M174 (pc_q := 11) (st_q := [.int 1]) rfl rfl rfl ?_
          refine pm_R_br pm_M174 (pc_q := 15) rfl rfl ?_
          refine pm_R_ret pm_M174 (r := some (.int 1)) rfl rfl ?_
          show pm_R _ 177 13 [.ref 41, .int 1, .int a1] [.int 1] _ _
          refine pm_R_ret pm_M177 (r := some (.int 1)) rfl rfl ?_
          show pm_R _ 200 15 [.ref 41, .int a0, .int a1] [.int 1] _ _
          refine pm_R_br pm_M200 (pc_q := 20) (st_q := []) rfl rfl ?_
          refine pm_R_lo pm_M200 (pc_q := 21) rfl rfl rfl ?_
          refine pm_R_lo pm_M200 (pc_q := 22) rfl rfl rfl ?_
          refine pm_R_lo pm_M200 (pc_q := 23) rfl rfl rfl ?_
          refine pm_R_cv pm_M200 (pc_q := 26) (a := 41) (ra := [.int a1, .int a0]) (rest := []) (ls_q := [.ref 41, .int a0, .int a1, pm_no]) rfl rfl (Or.inl rfl) pm_M201 T2.2.1 rfl (by decide) (Nat.lt_of_lt_of_le (by decide) T2.1) rfl rfl (Nat.le_of_ble_eq_true rfl) rfl rfl ?_
          refine rf_c201 (d := d + 3) T2 B23 B36 (V35.F F6 (by decide)) (fun m40 w41 h42 T43 F44 W45 X46 B47 => ?_)
          have F48 := F6.trans F44 (by decide)
          have W49 : rf_W [0, 23, 24, 26] m m40 := W9.trans W45 (by decide)
          show pm_R _ 200 26 [.ref 41, .int a0, .int a1] [] _ _
          refine pm_R_op pm_M200 (pc_q := 27) (st_q := [.int 1]) rfl rfl rfl ?_
          refine pm_R_ret pm_M200 (r := some (.int 1)) rfl rfl ?_
          show pm_R _ 289 11 [.ref 41, .int a0, .int a1, .int a2, .int a3, pm_no, pm_no] [.int 1] _ _
          refine pm_R_br pm_M289 (pc_q := 14) (st_q := []) rfl rfl ?_
          refine pm_R_lo pm_M289 (pc_q := 15) rfl rfl rfl ?_
          refine pm_R_op pm_M289 (pc_q := 16) (st_q := [.int 0, .int a2]) rfl rfl rfl ?_
          refine pm_R_lo pm_M289 (pc_q := 17) rfl rfl rfl ?_
          refine rf_R_get pm_M289 T43 (pc_q := 20) (v := .int (m40 24)) rfl rfl rfl rfl ?_
          refine pm_R_op pm_M289 (pc_q := 21) (st_q := [.int 1, .int (m40 24), .int 0, .int a2]) rfl rfl rfl ?_
          refine sf_R_isub pm_M289 (pc_q := 22) rfl rfl B47 sf_k1 (by decide) (by decide) (fun z50 e51 B52 => ?_)
          refine pm_R_cs pm_M289 (pc_q := 25) (ra := [.int z50, .int 0, .int a2]) (rest := []) (ls_q := [.int a2, .int 0, .int z50]) rfl rfl (Or.inl rfl) pm_M174 rfl rfl (Nat.le_of_ble_eq_true rfl) rfl rfl ?_
          refine pm_R_lo pm_M174 (pc_q := 1) rfl rfl rfl ?_
          refine pm_R_lo pm_M174 (pc_q := 2) rfl rfl rfl ?_
          refine pm_R_icmp pm_M174 (t := 14) (pc_q := 5) rfl rfl rfl (fun c53 => ?_) (fun c53 => ?_)
          · have B54 : sf_B (-2147483648) (-1) a2 := sf_ltL c53 (sf_any a2) sf_k0
            refine pm_R_op pm_M174 (pc_q := 15) (st_q := [.int 0]) rfl rfl rfl ?_
            refine pm_R_ret pm_M174 (r := some (.int 0)) rfl rfl ?_
            show pm_R _ 289 25 [.ref 41, .int a0, .int a1, .int a2, .int a3, pm_no, pm_no] [.int 0] _ _
            refine pm_R_br pm_M289 (pc_q := 43) (st_q := []) rfl rfl ?_
            refine pm_R_op pm_M289 (pc_q := 44) (st_q := [.int (-1)]) rfl rfl rfl ?_
            exact pm_R_ret pm_M289 (r := some (.int (-1))) rfl rfl (K (-1) m40 w41 h42 T43 F48 W49)
          · have B55 : sf_B 0 2147483647 a2 := sf_leR (Int32.not_lt.mp c53) sf_k0 (sf_any a2)
            refine pm_R_lo pm_M174 (pc_q := 6) rfl rfl rfl ?_
            refine pm_R_lo pm_M174 (pc_q := 7) rfl rfl rfl ?_
            refine pm_R_icmp pm_M174 (t := 14) (pc_q := 10) rfl rfl rfl (fun c56 => ?_) (fun c56 => ?_)
            · have B57 : sf_B 1 2147483647 a2 := sf_ltR c56 B52 B55
              refine pm_R_op pm_M174 (pc_q := 15) (st_q := [.int 0]) rfl rfl rfl ?_
              refine pm_R_ret pm_M174 (r := some (.int 0)) rfl rfl ?_
              show pm_R _ 289 25 [.ref 41, .int a0, .int a1, .int a2, .int a3, pm_no, pm_no] [.int 0] _ _
              refine pm_R_br pm_M289 (pc_q := 43) (st_q := []) rfl rfl ?_
              refine pm_R_op pm_M289 (pc_q := 44) (st_q := [.int (-1)]) rfl rfl rfl ?_
              exact pm_R_ret pm_M289 (r := some (.int (-1))) rfl rfl (K (-1) m40 w41 h42 T43 F48 W49)
            · have B58 : sf_B 0 11 a2 := sf_leL (Int32.not_lt.mp c56) B55 B52
              refine pm_R_op pm_M174 (pc_q := 11) (st_q := [.int 1]) rfl rfl rfl ?_
              refine pm_R_br pm_M174 (pc_q := 15) rfl rfl ?_
              refine pm_R_ret pm_M174 (r := some (.int 1)) rfl rfl ?_
              show pm_R _ 289 25 [.ref 41, .int a0, .int a1, .int a2, .int a3, pm_no, pm_no] [.int 1] _ _
              refine pm_R_br pm_M289 (pc_q := 28) (st_q := []) rfl rfl ?_
              refine pm_R_lo pm_M289 (pc_q := 30) rfl rfl rfl ?_
              refine pm_R_lo pm_M289 (pc_q := 31) rfl rfl rfl ?_
              refine pm_R_lo pm_M289 (pc_q := 32) rfl rfl rfl ?_
              refine rf_R_get pm_M289 T43 (pc_q := 35) (v := .int (m40 24)) rfl rfl rfl rfl ?_
              refine pm_R_op pm_M289 (pc_q := 36) (st_q := [.int 1, .int (m40 24), .int a2, .int a3]) rfl rfl rfl ?_
              refine sf_R_isubV pm_M289 (pc_q := 37) rfl rfl B47 sf_k1 (by decide) (by decide) e51 ?_
              refine pm_R_cs pm_M289 (pc_q := 40) (ra := [.int z50, .int a2, .int a3]) (rest := []) (ls_q := [.int a3, .int a2, .int z50]) rfl rfl (Or.inl rfl) pm_M174 rfl rfl (Nat.le_of_ble_eq_true rfl) rfl rfl ?_
              refine pm_R_lo pm_M174 (pc_q := 1) rfl rfl rfl ?_
              refine pm_R_lo pm_M174 (pc_q := 2) rfl rfl rfl ?_
              refine pm_R_icmp pm_M174 (t := 14) (pc_q := 5) rfl rfl rfl (fun c59 => ?_) (fun c59 => ?_)
              · have B60 : sf_B (-2147483648) 10 a3 := sf_ltL c59 (sf_any a3) B58
                refine pm_R_op pm_M174 (pc_q := 15) (st_q := [.int 0]) rfl rfl rfl ?_
                refine pm_R_ret pm_M174 (r := some (.int 0)) rfl rfl ?_
                show pm_R _ 289 40 [.ref 41, .int a0, .int a1, .int a2, .int a3, pm_no, pm_no] [.int 0] _ _
                refine pm_R_br pm_M289 (pc_q := 43) (st_q := []) rfl rfl ?_
                refine pm_R_op pm_M289 (pc_q := 44) (st_q := [.int (-1)]) rfl rfl rfl ?_
                exact pm_R_ret pm_M289 (r := some (.int (-1))) rfl rfl (K (-1) m40 w41 h42 T43 F48 W49)
              · have B61 : sf_B 0 2147483647 a3 := sf_leR (Int32.not_lt.mp c59) B58 (sf_any a3)
                refine pm_R_lo pm_M174 (pc_q := 6) rfl rfl rfl ?_
                refine pm_R_lo pm_M174 (pc_q := 7) rfl rfl rfl ?_
                refine pm_R_icmp pm_M174 (t := 14) (pc_q := 10) rfl rfl rfl (fun c62 => ?_) (fun c62 => ?_)
                · have B63 : sf_B 1 2147483647 a3 := sf_ltR c62 B52 B61
                  refine pm_R_op pm_M174 (pc_q := 15) (st_q := [.int 0]) rfl rfl rfl ?_
                  refine pm_R_ret pm_M174 (r := some (.int 0)) rfl rfl ?_
                  show pm_R _ 289 40 [.ref 41, .int a0, .int a1, .int a2, .int a3, pm_no, pm_no] [.int 0] _ _
                  refine pm_R_br pm_M289 (pc_q := 43) (st_q := []) rfl rfl ?_
                  refine pm_R_op pm_M289 (pc_q := 44) (st_q := [.int (-1)]) rfl rfl rfl ?_
                  exact pm_R_ret pm_M289 (r := some (.int (-1))) rfl rfl (K (-1) m40 w41 h42 T43 F48 W49)
                · have B64 : sf_B 0 11 a3 := sf_leL (Int32.not_lt.mp c62) B61 B52
                  refine pm_R_op pm_M174 (pc_q := 11) (st_q := [.int 1]) rfl rfl rfl ?_
                  refine pm_R_br pm_M174 (pc_q := 15) rfl rfl ?_
                  refine pm_R_ret pm_M174 (r := some (.int 1)) rfl rfl ?_
                  show pm_R _ 289 40 [.ref 41, .int a0, .int a1, .int a2, .int a3, pm_no, pm_no] [.int 1] _ _
                  refine pm_R_br pm_M289 (pc_q := 45) (st_q := []) rfl rfl ?_
                  refine pm_R_lo pm_M289 (pc_q := 46) rfl rfl rfl ?_
                  refine pm_R_cv pm_M289 (pc_q := 49) (a := 41) (ra := []) (rest := []) (ls_q := [.ref 41, pm_no, pm_no, pm_no, pm_no, pm_no]) rfl rfl (Or.inl rfl) pm_M216 T43.2.1 rfl (by decide) (Nat.lt_of_lt_of_le (by decide) T43.1) rfl rfl (Nat.le_of_ble_eq_true rfl) rfl rfl ?_
                  refine rf_c216 (d := d + 0) T43  (fun m67 w68 h69 T70 F71 W72 => ?_)
                  have F73 := F48.trans F71 (by decide)
                  have B74 : sf_B 1 12 (m67 24) := by rw [W72 24 (by decide)]; exact B47
                  have W75 : rf_W [0, 23, 24, 26] m m67 := W49.trans W72 (by decide)
                  show pm_R _ 289 49 [.ref 41, .int a0, .int a1, .int a2, .int a3, pm_no, pm_no] [] _ _
                  refine pm_R_op pm_M289 (pc_q := 50) (st_q := [.int 0]) rfl rfl rfl ?_
                  refine pm_R_lo pm_M289 (pc_q := 52) (ls_q := [.ref 41, .int a0, .int a1, .int a2, .int a3, .int 0, pm_no]) (st_q := []) rfl rfl rfl ?_
                  refine pm_R_op pm_M289 (pc_q := 53) (st_q := [.int 0]) rfl rfl rfl ?_
                  refine pm_R_lo pm_M289 (pc_q := 55) (ls_q := [.ref 41, .int a0, .int a1, .int a2, .int a3, .int 0, .int 0]) (st_q := []) rfl rfl rfl ?_
                  have L_300 : ∀ (N : Nat) (x5_300 : Int32) (x6_300 : Int32), sf_B (-2147483648) 2147483647 x5_300 → sf_B 0 6 x6_300 → (6 - x6_300.toInt).toNat = N → pm_R (d + 5) 289 55 [.ref 41, .int a0, .int a1, .int a2, .int a3, .int x5_300, .int x6_300] [] h69 Q := by
                    intro N
                    induction N using Nat.strongRecOn with
                    | ind N ih_300 =>
                      intro x5_300 x6_300 Bx5_300 Bx6_300 hN_300
                      refine pm_R_lo pm_M289 (pc_q := 57) rfl rfl rfl ?_
                      refine pm_R_op pm_M289 (pc_q := 59) (st_q := [.int 6, .int x6_300]) rfl rfl rfl ?_
                      refine pm_R_icmp pm_M289 (t := 99) (pc_q := 62) rfl rfl rfl (fun c301 => ?_) (fun c301 => ?_)
                      · have B302 : sf_B 6 6 x6_300 := sf_leR c301 sf_k6 Bx6_300
                        refine pm_R_lo pm_M289 (pc_q := 101) rfl rfl rfl ?_
                        exact pm_R_ret pm_M289 (r := some (.int x5_300)) rfl (pm_ret_i _) (K x5_300 m67 w68 h69 T70 F73 W75)
                      · have B303 : sf_B 0 5 x6_300 := sf_ltL (Int32.not_le.mp c301) Bx6_300 sf_k6
                        refine pm_R_lo pm_M289 (pc_q := 64) rfl rfl rfl ?_
                        refine pm_R_lo pm_M289 (pc_q := 65) rfl rfl rfl ?_
                        refine rf_R_get pm_M289 T70 (pc_q := 68) (v := .ref 54) rfl rfl rfl rfl ?_
                        refine pm_R_lo pm_M289 (pc_q := 70) rfl rfl rfl ?_
                        refine pm_R_lo pm_M289 (pc_q := 71) rfl rfl rfl ?_
                        refine pm_R_lo pm_M289 (pc_q := 73) rfl rfl rfl ?_
                        refine pm_R_cs pm_M289 (pc_q := 76) (ra := [.int a3, .int a2, .int x6_300]) (rest := [.ref 54, .int x5_300]) (ls_q := [.int x6_300, .int a2, .int a3]) rfl rfl (Or.inl rfl) pm_M207 rfl rfl (Nat.le_of_ble_eq_true rfl) rfl rfl ?_
                        refine pm_R_op pm_M207 (pc_q := 3) (st_q := [.int 144]) rfl rfl rfl ?_
                        refine pm_R_lo pm_M207 (pc_q := 4) rfl rfl rfl ?_
                        refine sf_R_imul pm_M207 (pc_q := 5) rfl rfl sf_k144 B303 (by decide) (by decide) (by decide) (fun z304 e305 B306 => ?_)
                        refine pm_R_op pm_M207 (pc_q := 7) (st_q := [.int 12, .int z304]) rfl rfl rfl ?_
                        refine pm_R_lo pm_M207 (pc_q := 8) rfl rfl rfl ?_
                        refine sf_R_imul pm_M207 (pc_q := 9) rfl rfl sf_k12 B58 (by decide) (by decide) (by decide) (fun z307 e308 B309 => ?_)
                        refine sf_R_iadd pm_M207 (pc_q := 10) rfl rfl B306 B309 (by decide) (by decide) (fun z310 e311 B312 => ?_)
                        refine pm_R_lo pm_M207 (pc_q := 11) rfl rfl rfl ?_
                        refine sf_R_iadd pm_M207 (pc_q := 12) rfl rfl B312 B64 (by decide) (by decide) (fun z313 e314 B315 => ?_)
                        refine pm_R_ret pm_M207 (r := some (.int z313)) rfl (pm_ret_i _) ?_
                        show pm_R _ 289 76 [.ref 41, .int a0, .int a1, .int a2, .int a3, .int x5_300, .int x6_300] [.int z313, .ref 54, .int x5_300] _ _
                        obtain ⟨f316, e317⟩ := T70.2.2.2.1 54 (by decide) (by decide)
                        refine rf_R_lld pm_M289 T70 (pc_q := 77) rfl e317 (by decide) (by decide) (sf_in B315 (by decide) (by decide)) rfl (fun z319 ez320 => ?_)
                        refine pm_R_op pm_M289 (pc_q := 78) (st_q := [.long 0, .long z319, .int x5_300]) rfl rfl rfl ?_
                        refine sf_R_lcmp pm_M289 (pc_q := 79) rfl rfl (fun z321 e322 => ?_)
                        refine pm_R_ifc pm_M289 (t := 89) (pc_q := 82) rfl rfl rfl (fun c323 => ?_) (fun c323 => ?_)
                        · have B324 : sf_B 0 0 z321 := sf_eqL c323 sf_k0
                          have B325 : lf_B 0 0 z319 := lf_eqB e322 B324 (⟨by decide, by decide⟩ : lf_B 0 0 0)
                          refine pm_R_op pm_M289 (pc_q := 90) (st_q := [.int 0, .int x5_300]) rfl rfl rfl ?_
                          refine sf_R_iany pm_M289 (pc_q := 91) (st := []) rfl rfl rfl (fun z329 => ?_)
                          refine pm_R_lo pm_M289 (pc_q := 93) (ls_q := [.ref 41, .int a0, .int a1, .int a2, .int a3, .int z329, .int x6_300]) (st_q := []) rfl rfl rfl ?_
                          refine sf_R_iinc pm_M289 (pc_q := 96) (ls_q := fun z => [.ref 41, .int a0, .int a1, .int a2, .int a3, .int z329, .int z]) rfl B303 rfl (by decide) (by decide) (by decide) (fun _ => rfl) rfl (fun z330 e331 B332 => ?_)
                          show pm_R _ 289 96 [.ref 41, .int a0, .int a1, .int a2, .int a3, .int z329, .int z330] [] _ _
                          refine pm_R_br pm_M289 (pc_q := 55) rfl rfl ?_
                          exact ih_300 _ (sf_up hN_300 e331 B303 (by decide) (by decide)) z329 z330 (sf_any z329) (sf_weak B332 (by decide) (by decide)) rfl
                        · have k333 := sf_lneC e322 c323
                          refine pm_R_op pm_M289 (pc_q := 83) (st_q := [.int 1, .int x5_300]) rfl rfl rfl ?_
                          refine pm_R_lo pm_M289 (pc_q := 85) rfl rfl rfl ?_
                          refine sf_R_iany pm_M289 (pc_q := 86) (st := [.int x5_300]) rfl rfl rfl (fun z337 => ?_)
                          refine pm_R_br pm_M289 (pc_q := 90) rfl rfl ?_
                          refine sf_R_iany pm_M289 (pc_q := 91) (st := []) rfl rfl rfl (fun z341 => ?_)
                          refine pm_R_lo pm_M289 (pc_q := 93) (ls_q := [.ref 41, .int a0, .int a1, .int a2, .int a3, .int z341, .int x6_300]) (st_q := []) rfl rfl rfl ?_
                          refine sf_R_iinc pm_M289 (pc_q := 96) (ls_q := fun z => [.ref 41, .int a0, .int a1, .int a2, .int a3, .int z341, .int z]) rfl B303 rfl (by decide) (by decide) (by decide) (fun _ => rfl) rfl (fun z342 e343 B344 => ?_)
                          show pm_R _ 289 96 [.ref 41, .int a0, .int a1, .int a2, .int a3, .int z341, .int z342] [] _ _
                          refine pm_R_br pm_M289 (pc_q := 55) rfl rfl ?_
                          exact ih_300 _ (sf_up hN_300 e343 B303 (by decide) (by decide)) z341 z342 (sf_any z341) (sf_weak B344 (by decide) (by decide)) rfl
                  exact L_300 _ 0 0 (sf_weak sf_k0 (by decide) (by decide)) (sf_weak sf_k0 (by decide) (by decide)) rfl

set_option maxRecDepth 100000 in
set_option maxHeartbeats 4000000 in
/-- SilentTableModel.asks -/
theorem rf_c290 {d : Nat} {m : Nat → Int32} {w : Int64} {h : pm_H} {Q : Option Value → pm_H → Prop} {a0 : Int32} {a1 : Int32} {a2 : Int32} {a3 : Int32} {a4 : Int32} {a5 : Int32} (T : rf_T m w h)  (K : ∀ (r : Int32) (m_q : Nat → Int32) (w_q : Int64) (h_q : pm_H), rf_T m_q w_q h_q → rf_G [41, 53, 54, 55, 66, 67, 68] h h_q → rf_W [0, 23, 24, 26, 42, 43, 44] m m_q → sf_B (-1) 9 r → Q (some (.int r)) h_q) : pm_R (d + 9) 290 0 [.ref 41, .int a0, .int a1, .int a2, .int a3, .int a4, .int a5, pm_no] [] h Q := by
  refine pm_R_lo pm_M290 (pc_q := 1) rfl rfl rfl ?_
  refine pm_R_op pm_M290 (pc_q := 2) (st_q := [.int 0, .ref 41]) rfl rfl rfl ?_
  refine rf_R_put pm_M290 T (pc_q := 5) rfl rfl rfl (by decide) rfl rfl sf_k0 rfl rfl (fun h1 m4 em5 T2 F3 => ?_)
  have F6 := (rf_G.refl [41, 53, 54, 55, 66, 67, 68] h).trans F3 (by decide)
  have B7 : sf_B 0 0 (m4 0) := by rw [em5]; exact sf_k0
  have W9 : rf_W [0, 23, 24, 26, 42, 43, 44] m m4 := by rw [em5]; exact (rf_W.refl [0, 23, 24, 26, 42, 43, 44] m).put (by decide)
  refine pm_R_lo pm_M290 (pc_q := 6) rfl rfl rfl ?_
  refine pm_R_lo pm_M290 (pc_q := 7) rfl rfl rfl ?_
  refine pm_R_lo pm_M290 (pc_q := 9) rfl rfl rfl ?_
  refine pm_R_lo pm_M290 (pc_q := 11) rfl rfl rfl ?_
  refine pm_R_cv pm_M290 (pc_q := 14) (a := 41) (ra := [.int a4, .int a3, .int a2]) (rest := []) (ls_q := [.ref 41, .int a2, .int a3, .int a4, pm_no, pm_no, pm_no, pm_no, pm_no]) rfl rfl (Or.inl rfl) pm_M266 T2.2.1 rfl (by decide) (Nat.lt_of_lt_of_le (by decide) T2.1) rfl rfl (Nat.le_of_ble_eq_true rfl) rfl rfl ?_
  refine rf_c266 (d := d + 5) T2  (fun r10 m12 w13 h14 T15 F16 W17 B11 => ?_)
  have F18 := F6.trans F16 (by decide)
  have W19 : rf_W [0, 23, 24, 26, 42, 43, 44] m m12 := W9.trans W17 (by decide)
  show pm_R _ 290 14 [.ref 41, .int a0, .int a1, .int a2, .int a3, .int a4, .int a5, pm_no] [.int r10] _ _
  refine pm_R_lo pm_M290 (pc_q := 16) (ls_q := [.ref 41, .int a0, .int a1, .int a2, .int a3, .int a4, .int a5, .int r10]) (st_q := []) rfl rfl rfl ?_
  refine pm_R_lo pm_M290 (pc_q := 18) rfl rfl rfl ?_
  refine pm_R_op pm_M290 (pc_q := 19) (st_q := [.int (-1), .int r10]) rfl rfl rfl ?_
  refine pm_R_icmp pm_M290 (t := 41) (pc_q := 22) rfl rfl rfl (fun c20 => ?_) (fun c20 => ?_)
  · have B21 : sf_B (-1) (-1) r10 := sf_eqL c20 sf_kn1
    refine pm_R_op pm_M290 (pc_q := 42) (st_q := [.int (-1)]) rfl rfl rfl ?_
    exact pm_R_ret pm_M290 (r := some (.int (-1))) rfl rfl (K (-1) m12 w13 h14 T15 F18 W19 (sf_weak sf_kn1 (by decide) (by decide)))
  · have B22 : sf_B 0 5 r10 := sf_neL0 c20 sf_kn1 B11
    refine pm_R_lo pm_M290 (pc_q := 23) rfl rfl rfl ?_
    refine pm_R_op pm_M290 (pc_q := 24) (st_q := [.int 0, .ref 41]) rfl rfl rfl ?_
    refine pm_R_lo pm_M290 (pc_q := 25) rfl rfl rfl ?_
    refine pm_R_cv pm_M290 (pc_q := 28) (a := 41) (ra := [.int a0, .int 0]) (rest := []) (ls_q := [.ref 41, .int 0, .int a0]) rfl rfl (Or.inl rfl) pm_M177 T15.2.1 rfl (by decide) (Nat.lt_of_lt_of_le (by decide) T15.1) rfl rfl (Nat.le_of_ble_eq_true rfl) rfl rfl ?_
    refine pm_R_lo pm_M177 (pc_q := 1) rfl rfl rfl ?_
    refine pm_R_op pm_M177 (pc_q := 2) (st_q := [.int 0, .int a0]) rfl rfl rfl ?_
    refine pm_R_lo pm_M177 (pc_q := 3) rfl rfl rfl ?_
    refine rf_R_get pm_M177 T15 (pc_q := 6) (v := .ref 46) rfl rfl rfl rfl ?_
    refine pm_R_lo pm_M177 (pc_q := 7) rfl rfl rfl ?_
    obtain ⟨f23, e24, b25⟩ := T15.2.2.2.1 46 (by decide) (by decide)
    refine rf_R_ild pm_M177 T15 (pc_q := 8) rfl e24 (by decide) rfl rfl (fun z26 ez27 => ?_)
    have B28 : sf_B 0 2 z26 := ez27 ▸ (b25 0)
    refine pm_R_op pm_M177 (pc_q := 9) (st_q := [.int 1, .int z26, .int 0, .int a0]) rfl rfl rfl ?_
    refine sf_R_isub pm_M177 (pc_q := 10) rfl rfl B28 sf_k1 (by decide) (by decide) (fun z29 e30 B31 => ?_)
    refine pm_R_cs pm_M177 (pc_q := 13) (ra := [.int z29, .int 0, .int a0]) (rest := []) (ls_q := [.int a0, .int 0, .int z29]) rfl rfl (Or.inl rfl) pm_M174 rfl rfl (Nat.le_of_ble_eq_true rfl) rfl rfl ?_
    refine pm_R_lo pm_M174 (pc_q := 1) rfl rfl rfl ?_
    refine pm_R_lo pm_M174 (pc_q := 2) rfl rfl rfl ?_
    refine pm_R_icmp pm_M174 (t := 14) (pc_q := 5) rfl rfl rfl (fun c32 => ?_) (fun c32 => ?_)
    · have B33 : sf_B (-2147483648) (-1) a0 := sf_ltL c32 (sf_any a0) sf_k0
      refine pm_R_op pm_M174 (pc_q := 15) (st_q := [.int 0]) rfl rfl rfl ?_
      refine pm_R_ret pm_M174 (r := some (.int 0)) rfl rfl ?_
      show pm_R _ 177 13 [.ref 41, .int 0, .int a0] [.int 0] _ _
      refine pm_R_ret pm_M177 (r := some (.int 0)) rfl rfl ?_
      show pm_R _ 290 28 [.ref 41, .int a0, .int a1, .int a2, .int a3, .int a4, .int a5, .int r10] [.int 0] _ _
      refine pm_R_br pm_M290 (pc_q := 41) (st_q := []) rfl rfl ?_
      refine pm_R_op pm_M290 (pc_q := 42) (st_q := [.int (-1)]) rfl rfl rfl ?_
      exact pm_R_ret pm_M290 (r := some (.int (-1))) rfl rfl (K (-1) m12 w13 h14 T15 F18 W19 (sf_weak sf_kn1 (by decide) (by decide)))
    · have B34 : sf_B 0 2147483647 a0 := sf_leR (Int32.not_lt.mp c32) sf_k0 (sf_any a0)
      refine pm_R_lo pm_M174 (pc_q := 6) rfl rfl rfl ?_
      refine pm_R_lo pm_M174 (pc_q := 7) rfl rfl rfl ?_
      refine pm_R_icmp pm_M174 (t := 14) (pc_q := 10) rfl rfl rfl (fun c35 => ?_) (fun c35 => ?_)
      · skip
        refine pm_R_op pm_M174 (pc_q := 15) (st_q := [.int 0]) rfl rfl rfl ?_
        refine pm_R_ret pm_M174 (r := some (.int 0)) rfl rfl ?_
        show pm_R _ 177 13 [.ref 41, .int 0, .int a0] [.int 0] _ _
        refine pm_R_ret pm_M177 (r := some (.int 0)) rfl rfl ?_
        show pm_R _ 290 28 [.ref 41, .int a0, .int a1, .int a2, .int a3, .int a4, .int a5, .int r10] [.int 0] _ _
        refine pm_R_br pm_M290 (pc_q := 41) (st_q := []) rfl rfl ?_
        refine pm_R_op pm_M290 (pc_q := 42) (st_q := [.int (-1)]) rfl rfl rfl ?_
        exact pm_R_ret pm_M290 (r := some (.int (-1))) rfl rfl (K (-1) m12 w13 h14 T15 F18 W19 (sf_weak sf_kn1 (by decide) (by decide)))
      · have B36 : sf_B 0 1 a0 := sf_leL (Int32.not_lt.mp c35) B34 B31
        have B37 : sf_B 0 1 z29 := sf_leR (Int32.not_lt.mp c35) B34 B31
        refine pm_R_op pm_M174 (pc_q := 11) (st_q := [.int 1]) rfl rfl rfl ?_
        refine pm_R_br pm_M174 (pc_q := 15) rfl rfl ?_
        refine pm_R_ret pm_M174 (r := some (.int 1)) rfl rfl ?_
        show pm_R _ 177 13 [.ref 41, .int 0, .int a0] [.int 1] _ _
        refine pm_R_ret pm_M177 (r := some (.int 1)) rfl rfl ?_
        show pm_R _ 290 28 [.ref 41, .int a0, .int a1, .int a2, .int a3, .int a4, .int a5, .int r10] [.int 1] _ _
        refine pm_R_br pm_M290 (pc_q := 31) (st_q := []) rfl rfl ?_
        refine pm_R_lo pm_M290 (pc_q := 32) rfl rfl rfl ?_
        refine pm_R_op pm_M290 (pc_q := 33) (st_q := [.int 0, .int a1]) rfl rfl rfl ?_
        refine pm_R_op pm_M290 (pc_q := 35) (st_q := [.int 49, .int 0, .int a1]) rfl rfl rfl ?_
        refine pm_R_cs pm_M290 (pc_q := 38) (ra := [.int 49, .int 0, .int a1]) (rest := []) (ls_q := [.int a1, .int 0, .int 49]) rfl rfl (Or.inl rfl) pm_M174 rfl rfl (Nat.le_of_ble_eq_true rfl) rfl rfl ?_
        refine pm_R_lo pm_M174 (pc_q := 1) rfl rfl rfl ?_
        refine pm_R_lo pm_M174 (pc_q := 2) rfl rfl rfl ?_
        refine pm_R_icmp pm_M174 (t := 14) (pc_q := 5) rfl rfl rfl (fun c38 => ?_) (fun c38 => ?_)
        · have B39 : sf_B (-2147483648) (-1) a1 := sf_ltL c38 (sf_any a1) sf_k0
          refine pm_R_op pm_M174 (pc_q := 15) (st_q := [.int 0]) rfl rfl rfl ?_
          refine pm_R_ret pm_M174 (r := some (.int 0)) rfl rfl ?_
          show pm_R _ 290 38 [.ref 41, .int a0, .int a1, .int a2, .int a3, .int a4, .int a5, .int r10] [.int 0] _ _
          refine pm_R_br pm_M290 (pc_q := 41) (st_q := []) rfl rfl ?_
          refine pm_R_op pm_M290 (pc_q := 42) (st_q := [.int (-1)]) rfl rfl rfl ?_
          exact pm_R_ret pm_M290 (r := some (.int (-1))) rfl rfl (K (-1) m12 w13 h14 T15 F18 W19 (sf_weak sf_kn1 (by decide) (by decide)))
        · have B40 : sf_B 0 2147483647 a1 := sf_leR (Int32.not_lt.mp c38) sf_k0 (sf_any a1)
          refine pm_R_lo pm_M174 (pc_q := 6) rfl rfl rfl ?_
          refine pm_R_lo pm_M174 (pc_q := 7) rfl rfl rfl ?_
          refine pm_R_icmp pm_M174 (t := 14) (pc_q := 10) rfl rfl rfl (fun c41 => ?_) (fun c41 => ?_)
          · have B42 : sf_B 50 2147483647 a1 := sf_ltR c41 sf_k49 B40
            refine pm_R_op pm_M174 (pc_q := 15) (st_q := [.int 0]) rfl rfl rfl ?_
            refine pm_R_ret pm_M174 (r := some (.int 0)) rfl rfl ?_
            show pm_R _ 290 38 [.ref 41, .int a0, .int a1, .int a2, .int a3, .int a4, .int a5, .int r10] [.int 0] _ _
            refine pm_R_br pm_M290 (pc_q := 41) (st_q := []) rfl rfl ?_
            refine pm_R_op pm_M290 (pc_q := 42) (st_q := [.int (-1)]) rfl rfl rfl ?_
            exact pm_R_ret pm_M290 (r := some (.int (-1))) rfl rfl (K (-1) m12 w13 h14 T15 F18 W19 (sf_weak sf_kn1 (by decide) (by decide)))
          · have B43 : sf_B 0 49 a1 := sf_leL (Int32.not_lt.mp c41) B40 sf_k49
            refine pm_R_op pm_M174 (pc_q := 11) (st_q := [.int 1]) rfl rfl rfl ?_
            refine pm_R_br pm_M174 (pc_q := 15) rfl rfl ?_
            refine pm_R_ret pm_M174 (r := some (.int 1)) rfl rfl ?_
            show pm_R _ 290 38 [.ref 41, .int a0, .int a1, .int a2, .int a3, .int a4, .int a5, .int r10] [.int 1] _ _
            refine pm_R_br pm_M290 (pc_q := 43) (st_q := []) rfl rfl ?_
            refine pm_R_lo pm_M290 (pc_q := 44) rfl rfl rfl ?_
            refine pm_R_lo pm_M290 (pc_q := 45) rfl rfl rfl ?_
            refine rf_R_put pm_M290 T15 (pc_q := 48) rfl rfl rfl (by decide) rfl rfl B36 rfl rfl (fun h44 m47 em48 T45 F46 => ?_)
            have F49 := F18.trans F46 (by decide)
            have B50 : sf_B 0 1 (m47 23) := by rw [em48]; exact B36
            have ek51 : (m47 23).toInt = (a0).toInt := by rw [em48]; rfl
            have W52 : rf_W [0, 23, 24, 26, 42, 43, 44] m m47 := by rw [em48]; exact W19.put (by decide)
            refine pm_R_lo pm_M290 (pc_q := 49) rfl rfl rfl ?_
            refine pm_R_lo pm_M290 (pc_q := 50) rfl rfl rfl ?_
            refine pm_R_lo pm_M290 (pc_q := 52) rfl rfl rfl ?_
            refine pm_R_op pm_M290 (pc_q := 53) (st_q := [.int 1, .int r10, .int a1, .ref 41]) rfl rfl rfl ?_
            refine sf_R_isub pm_M290 (pc_q := 54) rfl rfl B22 sf_k1 (by decide) (by decide) (fun z53 e54 B55 => ?_)
            refine pm_R_cv pm_M290 (pc_q := 57) (a := 41) (ra := [.int z53, .int a1]) (rest := []) (ls_q := [.ref 41, .int a1, .int z53, pm_no, pm_no]) rfl rfl (Or.inl rfl) pm_M241 T45.2.1 rfl (by decide) (Nat.lt_of_lt_of_le (by decide) T45.1) rfl rfl (Nat.le_of_ble_eq_true rfl) rfl rfl ?_
            refine rf_c241 (d := d + 0) T45 B43 (sf_weak B55 (by decide) (by decide)) (fun r56 m58 w59 h60 T61 F62 W63 B57 => ?_)
            have F64 := F49.trans F62 (by decide)
            have W65 : rf_W [0, 23, 24, 26, 42, 43, 44] m m58 := W52.trans W63 (by decide)
            show pm_R _ 290 57 [.ref 41, .int a0, .int a1, .int a2, .int a3, .int a4, .int a5, .int r10] [.int r56] _ _
            refine pm_R_ifc pm_M290 (t := 69) (pc_q := 60) rfl rfl rfl (fun c66 => ?_) (fun c66 => ?_)
            · have B67 : sf_B 0 0 r56 := sf_eqL c66 sf_k0
              refine pm_R_op pm_M290 (pc_q := 70) (st_q := [.int (-1)]) rfl rfl rfl ?_
              exact pm_R_ret pm_M290 (r := some (.int (-1))) rfl rfl (K (-1) m58 w59 h60 T61 F64 W65 (sf_weak sf_kn1 (by decide) (by decide)))
            · have B68 : sf_B 1 1 r56 := sf_neL0 c66 sf_k0 B57
              refine pm_R_lo pm_M290 (pc_q := 61) rfl rfl rfl ?_
              refine pm_R_lo pm_M290 (pc_q := 63) rfl rfl rfl ?_
              refine pm_R_cv pm_M290 (pc_q := 66) (a := 41) (ra := [.int a5]) (rest := []) (ls_q := [.ref 41, .int a5]) rfl rfl (Or.inl rfl) pm_M246 T61.2.1 rfl (by decide) (Nat.lt_of_lt_of_le (by decide) T61.1) rfl rfl (Nat.le_of_ble_eq_true rfl) rfl rfl ?_
              refine pm_R_lo pm_M246 (pc_q := 1) rfl rfl rfl ?_
              refine pm_R_op pm_M246 (pc_q := 2) (st_q := [.int 0, .int a5]) rfl rfl rfl ?_
              refine pm_R_lo pm_M246 (pc_q := 3) rfl rfl rfl ?_
              refine rf_R_get pm_M246 T61 (pc_q := 6) (v := .ref 66) rfl rfl rfl rfl ?_
              refine pm_R_op pm_M246 (pc_q := 7) (st_q := [.int 0, .ref 66, .int 0, .int a5]) rfl rfl rfl ?_
              obtain ⟨f69, e70, b71⟩ := T61.2.2.2.1 66 (by decide) (by decide)
              refine rf_R_ild pm_M246 T61 (pc_q := 8) rfl e70 (by decide) rfl rfl (fun z72 ez73 => ?_)
              have B74 : sf_B 0 4 z72 := ez73 ▸ (b71 0)
              refine pm_R_cs pm_M246 (pc_q := 11) (ra := [.int z72, .int 0, .int a5]) (rest := []) (ls_q := [.int a5, .int 0, .int z72]) rfl rfl (Or.inl rfl) pm_M174 rfl rfl (Nat.le_of_ble_eq_true rfl) rfl rfl ?_
              refine pm_R_lo pm_M174 (pc_q := 1) rfl rfl rfl ?_
              refine pm_R_lo pm_M174 (pc_q := 2) rfl rfl rfl ?_
              refine pm_R_icmp pm_M174 (t := 14) (pc_q := 5) rfl rfl rfl (fun c75 => ?_) (fun c75 => ?_)
              · have B76 : sf_B (-2147483648) (-1) a5 := sf_ltL c75 (sf_any a5) sf_k0
                refine pm_R_op pm_M174 (pc_q := 15) (st_q := [.int 0]) rfl rfl rfl ?_
                refine pm_R_ret pm_M174 (r := some (.int 0)) rfl rfl ?_
                show pm_R _ 246 11 [.ref 41, .int a5] [.int 0] _ _
                refine pm_R_br pm_M246 (pc_q := 23) (st_q := []) rfl rfl ?_
                refine pm_R_op pm_M246 (pc_q := 24) (st_q := [.int (-1)]) rfl rfl rfl ?_
                refine pm_R_ret pm_M246 (r := some (.int (-1))) rfl rfl ?_
                show pm_R _ 290 66 [.ref 41, .int a0, .int a1, .int a2, .int a3, .int a4, .int a5, .int r10] [.int (-1)] _ _
                refine pm_R_br pm_M290 (pc_q := 70) rfl rfl ?_
                exact pm_R_ret pm_M290 (r := some (.int (-1))) rfl rfl (K (-1) m58 w59 h60 T61 F64 W65 (sf_weak sf_kn1 (by decide) (by decide)))
              · have B77 : sf_B 0 2147483647 a5 := sf_leR (Int32.not_lt.mp c75) sf_k0 (sf_any a5)
                refine pm_R_lo pm_M174 (pc_q := 6) rfl rfl rfl ?_
                refine pm_R_lo pm_M174 (pc_q := 7) rfl rfl rfl ?_
                refine pm_R_icmp pm_M174 (t := 14) (pc_q := 10) rfl rfl rfl (fun c78 => ?_) (fun c78 => ?_)
                · have B79 : sf_B 1 2147483647 a5 := sf_ltR c78 B74 B77
                  refine pm_R_op pm_M174 (pc_q := 15) (st_q := [.int 0]) rfl rfl rfl ?_
                  refine pm_R_ret pm_M174 (r := some (.int 0)) rfl rfl ?_
                  show pm_R _ 246 11 [.ref 41, .int a5] [.int 0] _ _
                  refine pm_R_br pm_M246 (pc_q := 23) (st_q := []) rfl rfl ?_
                  refine pm_R_op pm_M246 (pc_q := 24) (st_q := [.int (-1)]) rfl rfl rfl ?_
                  refine pm_R_ret pm_M246 (r := some (.int (-1))) rfl rfl ?_
                  show pm_R _ 290 66 [.ref 41, .int a0, .int a1, .int a2, .int a3, .int a4, .int a5, .int r10] [.int (-1)] _ _
                  refine pm_R_br pm_M290 (pc_q := 70) rfl rfl ?_
                  exact pm_R_ret pm_M290 (r := some (.int (-1))) rfl rfl (K (-1) m58 w59 h60 T61 F64 W65 (sf_weak sf_kn1 (by decide) (by decide)))
                · have B80 : sf_B 0 4 a5 := sf_leL (Int32.not_lt.mp c78) B77 B74
                  refine pm_R_op pm_M174 (pc_q := 11) (st_q := [.int 1]) rfl rfl rfl ?_
                  refine pm_R_br pm_M174 (pc_q := 15) rfl rfl ?_
                  refine pm_R_ret pm_M174 (r := some (.int 1)) rfl rfl ?_
                  show pm_R _ 246 11 [.ref 41, .int a5] [.int 1] _ _
                  refine pm_R_br pm_M246 (pc_q := 14) (st_q := []) rfl rfl ?_
                  refine pm_R_lo pm_M246 (pc_q := 15) rfl rfl rfl ?_
                  refine rf_R_get pm_M246 T61 (pc_q := 18) (v := .ref 66) rfl rfl rfl rfl ?_
                  refine pm_R_lo pm_M246 (pc_q := 19) rfl rfl rfl ?_
                  refine rf_R_ild pm_M246 T61 (pc_q := 20) rfl e70 (by decide) (sf_in B80 (by decide) (by decide)) rfl (fun z81 ez82 => ?_)
                  have B83 : sf_B 0 9 z81 := ez82 ▸ (rf_p66 b71 _)
                  refine pm_R_br pm_M246 (pc_q := 24) rfl rfl ?_
                  refine pm_R_ret pm_M246 (r := some (.int z81)) rfl (pm_ret_i _) ?_
                  show pm_R _ 290 66 [.ref 41, .int a0, .int a1, .int a2, .int a3, .int a4, .int a5, .int r10] [.int z81] _ _
                  refine pm_R_br pm_M290 (pc_q := 70) rfl rfl ?_
                  exact pm_R_ret pm_M290 (r := some (.int z81)) rfl (pm_ret_i _) (K z81 m58 w59 h60 T61 F64 W65 (sf_weak B83 (by decide) (by decide)))

set_option maxRecDepth 100000 in
set_option maxHeartbeats 4000000 in
/-- SilentTableModel.like -/
theorem rf_c293 {d : Nat} {m : Nat → Int32} {w : Int64} {h : pm_H} {Q : Option Value → pm_H → Prop} {a0 : Int32} {a1 : Int32} {a2 : Int32} (T : rf_T m w h)  (K : ∀ (r : Int32) (m_q : Nat → Int32) (w_q : Int64) (h_q : pm_H), rf_T m_q w_q h_q → rf_G [41, 53, 54] h h_q → rf_W [0, 23, 24, 26] m m_q → sf_B (-1) 50 r → Q (some (.int r)) h_q) : pm_R (d + 6) 293 0 [.ref 41, .int a0, .int a1, .int a2, pm_no, pm_no] [] h Q := by
  refine pm_R_lo pm_M293 (pc_q := 1) rfl rfl rfl ?_
  refine pm_R_op pm_M293 (pc_q := 2) (st_q := [.int 0, .ref 41]) rfl rfl rfl ?_
  refine rf_R_put pm_M293 T (pc_q := 5) rfl rfl rfl (by decide) rfl rfl sf_k0 rfl rfl (fun h1 m4 em5 T2 F3 => ?_)
  have F6 := (rf_G.refl [41, 53, 54] h).trans F3 (by decide)
  have B7 : sf_B 0 0 (m4 0) := by rw [em5]; exact sf_k0
  have W9 : rf_W [0, 23, 24, 26] m m4 := by rw [em5]; exact (rf_W.refl [0, 23, 24, 26] m).put (by decide)
  refine pm_R_lo pm_M293 (pc_q := 6) rfl rfl rfl ?_
  refine pm_R_lo pm_M293 (pc_q := 7) rfl rfl rfl ?_
  refine pm_R_lo pm_M293 (pc_q := 8) rfl rfl rfl ?_
  refine pm_R_cv pm_M293 (pc_q := 11) (a := 41) (ra := [.int a1, .int a0]) (rest := []) (ls_q := [.ref 41, .int a0, .int a1]) rfl rfl (Or.inl rfl) pm_M200 T2.2.1 rfl (by decide) (Nat.lt_of_lt_of_le (by decide) T2.1) rfl rfl (Nat.le_of_ble_eq_true rfl) rfl rfl ?_
  refine pm_R_lo pm_M200 (pc_q := 1) rfl rfl rfl ?_
  refine pm_R_op pm_M200 (pc_q := 2) (st_q := [.int 0, .ref 41]) rfl rfl rfl ?_
  refine pm_R_lo pm_M200 (pc_q := 3) rfl rfl rfl ?_
  refine pm_R_cv pm_M200 (pc_q := 6) (a := 41) (ra := [.int a0, .int 0]) (rest := []) (ls_q := [.ref 41, .int 0, .int a0]) rfl rfl (Or.inl rfl) pm_M177 T2.2.1 rfl (by decide) (Nat.lt_of_lt_of_le (by decide) T2.1) rfl rfl (Nat.le_of_ble_eq_true rfl) rfl rfl ?_
  refine pm_R_lo pm_M177 (pc_q := 1) rfl rfl rfl ?_
  refine pm_R_op pm_M177 (pc_q := 2) (st_q := [.int 0, .int a0]) rfl rfl rfl ?_
  refine pm_R_lo pm_M177 (pc_q := 3) rfl rfl rfl ?_
  refine rf_R_get pm_M177 T2 (pc_q := 6) (v := .ref 46) rfl rfl rfl rfl ?_
  refine pm_R_lo pm_M177 (pc_q := 7) rfl rfl rfl ?_
  obtain ⟨f10, e11, b12⟩ := T2.2.2.2.1 46 (by decide) (by decide)
  refine rf_R_ild pm_M177 T2 (pc_q := 8) rfl e11 (by decide) rfl rfl (fun z13 ez14 => ?_)
  have B15 : sf_B 0 2 z13 := ez14 ▸ (b12 0)
  refine pm_R_op pm_M177 (pc_q := 9) (st_q := [.int 1, .int z13, .int 0, .int a0]) rfl rfl rfl ?_
  refine sf_R_isub pm_M177 (pc_q := 10) rfl rfl B15 sf_k1 (by decide) (by decide) (fun z16 e17 B18 => ?_)
  refine pm_R_cs pm_M177 (pc_q := 13) (ra := [.int z16, .int 0, .int a0]) (rest := []) (ls_q := [.int a0, .int 0, .int z16]) rfl rfl (Or.inl rfl) pm_M174 rfl rfl (Nat.le_of_ble_eq_true rfl) rfl rfl ?_
  refine pm_R_lo pm_M174 (pc_q := 1) rfl rfl rfl ?_
  refine pm_R_lo pm_M174 (pc_q := 2) rfl rfl rfl ?_
  refine pm_R_icmp pm_M174 (t := 14) (pc_q := 5) rfl rfl rfl (fun c19 => ?_) (fun c19 => ?_)
  · have B20 : sf_B (-2147483648) (-1) a0 := sf_ltL c19 (sf_any a0) sf_k0
    refine pm_R_op pm_M174 (pc_q := 15) (st_q := [.int 0]) rfl rfl rfl ?_
    refine pm_R_ret pm_M174 (r := some (.int 0)) rfl rfl ?_
    show pm_R _ 177 13 [.ref 41, .int 0, .int a0] [.int 0] _ _
    refine pm_R_ret pm_M177 (r := some (.int 0)) rfl rfl ?_
    show pm_R _ 200 6 [.ref 41, .int a0, .int a1] [.int 0] _ _
    refine pm_R_br pm_M200 (pc_q := 18) (st_q := []) rfl rfl ?_
    refine pm_R_op pm_M200 (pc_q := 19) (st_q := [.int 0]) rfl rfl rfl ?_
    refine pm_R_ret pm_M200 (r := some (.int 0)) rfl rfl ?_
    show pm_R _ 293 11 [.ref 41, .int a0, .int a1, .int a2, pm_no, pm_no] [.int 0] _ _
    refine pm_R_br pm_M293 (pc_q := 23) (st_q := []) rfl rfl ?_
    refine pm_R_op pm_M293 (pc_q := 24) (st_q := [.int (-1)]) rfl rfl rfl ?_
    exact pm_R_ret pm_M293 (r := some (.int (-1))) rfl rfl (K (-1) m4 w h1 T2 F6 W9 (sf_weak sf_kn1 (by decide) (by decide)))
  · have B21 : sf_B 0 2147483647 a0 := sf_leR (Int32.not_lt.mp c19) sf_k0 (sf_any a0)
    refine pm_R_lo pm_M174 (pc_q := 6) rfl rfl rfl ?_
    refine pm_R_lo pm_M174 (pc_q := 7) rfl rfl rfl ?_
    refine pm_R_icmp pm_M174 (t := 14) (pc_q := 10) rfl rfl rfl (fun c22 => ?_) (fun c22 => ?_)
    · skip
      refine pm_R_op pm_M174 (pc_q := 15) (st_q := [.int 0]) rfl rfl rfl ?_
      refine pm_R_ret pm_M174 (r := some (.int 0)) rfl rfl ?_
      show pm_R _ 177 13 [.ref 41, .int 0, .int a0] [.int 0] _ _
      refine pm_R_ret pm_M177 (r := some (.int 0)) rfl rfl ?_
      show pm_R _ 200 6 [.ref 41, .int a0, .int a1] [.int 0] _ _
      refine pm_R_br pm_M200 (pc_q := 18) (st_q := []) rfl rfl ?_
      refine pm_R_op pm_M200 (pc_q := 19) (st_q := [.int 0]) rfl rfl rfl ?_
      refine pm_R_ret pm_M200 (r := some (.int 0)) rfl rfl ?_
      show pm_R _ 293 11 [.ref 41, .int a0, .int a1, .int a2, pm_no, pm_no] [.int 0] _ _
      refine pm_R_br pm_M293 (pc_q := 23) (st_q := []) rfl rfl ?_
      refine pm_R_op pm_M293 (pc_q := 24) (st_q := [.int (-1)]) rfl rfl rfl ?_
      exact pm_R_ret pm_M293 (r := some (.int (-1))) rfl rfl (K (-1) m4 w h1 T2 F6 W9 (sf_weak sf_kn1 (by decide) (by decide)))
    · have B23 : sf_B 0 1 a0 := sf_leL (Int32.not_lt.mp c22) B21 B18
      have B24 : sf_B 0 1 z16 := sf_leR (Int32.not_lt.mp c22) B21 B18
      refine pm_R_op pm_M174 (pc_q := 11) (st_q := [.int 1]) rfl rfl rfl ?_
      refine pm_R_br pm_M174 (pc_q := 15) rfl rfl ?_
      refine pm_R_ret pm_M174 (r := some (.int 1)) rfl rfl ?_
      show pm_R _ 177 13 [.ref 41, .int 0, .int a0] [.int 1] _ _
      refine pm_R_ret pm_M177 (r := some (.int 1)) rfl rfl ?_
      show pm_R _ 200 6 [.ref 41, .int a0, .int a1] [.int 1] _ _
      refine pm_R_br pm_M200 (pc_q := 9) (st_q := []) rfl rfl ?_
      refine pm_R_lo pm_M200 (pc_q := 10) rfl rfl rfl ?_
      refine pm_R_op pm_M200 (pc_q := 11) (st_q := [.int 1, .ref 41]) rfl rfl rfl ?_
      refine pm_R_lo pm_M200 (pc_q := 12) rfl rfl rfl ?_
      refine pm_R_cv pm_M200 (pc_q := 15) (a := 41) (ra := [.int a1, .int 1]) (rest := []) (ls_q := [.ref 41, .int 1, .int a1]) rfl rfl (Or.inl rfl) pm_M177 T2.2.1 rfl (by decide) (Nat.lt_of_lt_of_le (by decide) T2.1) rfl rfl (Nat.le_of_ble_eq_true rfl) rfl rfl ?_
      refine pm_R_lo pm_M177 (pc_q := 1) rfl rfl rfl ?_
      refine pm_R_op pm_M177 (pc_q := 2) (st_q := [.int 0, .int a1]) rfl rfl rfl ?_
      refine pm_R_lo pm_M177 (pc_q := 3) rfl rfl rfl ?_
      refine rf_R_get pm_M177 T2 (pc_q := 6) (v := .ref 46) rfl rfl rfl rfl ?_
      refine pm_R_lo pm_M177 (pc_q := 7) rfl rfl rfl ?_
      refine rf_R_ild pm_M177 T2 (pc_q := 8) rfl e11 (by decide) rfl rfl (fun z25 ez26 => ?_)
      have B27 : sf_B 0 3 z25 := ez26 ▸ (b12 1)
      refine pm_R_op pm_M177 (pc_q := 9) (st_q := [.int 1, .int z25, .int 0, .int a1]) rfl rfl rfl ?_
      refine sf_R_isub pm_M177 (pc_q := 10) rfl rfl B27 sf_k1 (by decide) (by decide) (fun z28 e29 B30 => ?_)
      refine pm_R_cs pm_M177 (pc_q := 13) (ra := [.int z28, .int 0, .int a1]) (rest := []) (ls_q := [.int a1, .int 0, .int z28]) rfl rfl (Or.inl rfl) pm_M174 rfl rfl (Nat.le_of_ble_eq_true rfl) rfl rfl ?_
      refine pm_R_lo pm_M174 (pc_q := 1) rfl rfl rfl ?_
      refine pm_R_lo pm_M174 (pc_q := 2) rfl rfl rfl ?_
      refine pm_R_icmp pm_M174 (t := 14) (pc_q := 5) rfl rfl rfl (fun c31 => ?_) (fun c31 => ?_)
      · have B32 : sf_B (-2147483648) (-1) a1 := sf_ltL c31 (sf_any a1) sf_k0
        refine pm_R_op pm_M174 (pc_q := 15) (st_q := [.int 0]) rfl rfl rfl ?_
        refine pm_R_ret pm_M174 (r := some (.int 0)) rfl rfl ?_
        show pm_R _ 177 13 [.ref 41, .int 1, .int a1] [.int 0] _ _
        refine pm_R_ret pm_M177 (r := some (.int 0)) rfl rfl ?_
        show pm_R _ 200 15 [.ref 41, .int a0, .int a1] [.int 0] _ _
        refine pm_R_br pm_M200 (pc_q := 18) (st_q := []) rfl rfl ?_
        refine pm_R_op pm_M200 (pc_q := 19) (st_q := [.int 0]) rfl rfl rfl ?_
        refine pm_R_ret pm_M200 (r := some (.int 0)) rfl rfl ?_
        show pm_R _ 293 11 [.ref 41, .int a0, .int a1, .int a2, pm_no, pm_no] [.int 0] _ _
        refine pm_R_br pm_M293 (pc_q := 23) (st_q := []) rfl rfl ?_
        refine pm_R_op pm_M293 (pc_q := 24) (st_q := [.int (-1)]) rfl rfl rfl ?_
        exact pm_R_ret pm_M293 (r := some (.int (-1))) rfl rfl (K (-1) m4 w h1 T2 F6 W9 (sf_weak sf_kn1 (by decide) (by decide)))
      · have B33 : sf_B 0 2147483647 a1 := sf_leR (Int32.not_lt.mp c31) sf_k0 (sf_any a1)
        refine pm_R_lo pm_M174 (pc_q := 6) rfl rfl rfl ?_
        refine pm_R_lo pm_M174 (pc_q := 7) rfl rfl rfl ?_
        refine pm_R_icmp pm_M174 (t := 14) (pc_q := 10) rfl rfl rfl (fun c34 => ?_) (fun c34 => ?_)
        · skip
          refine pm_R_op pm_M174 (pc_q := 15) (st_q := [.int 0]) rfl rfl rfl ?_
          refine pm_R_ret pm_M174 (r := some (.int 0)) rfl rfl ?_
          show pm_R _ 177 13 [.ref 41, .int 1, .int a1] [.int 0] _ _
          refine pm_R_ret pm_M177 (r := some (.int 0)) rfl rfl ?_
          show pm_R _ 200 15 [.ref 41, .int a0, .int a1] [.int 0] _ _
          refine pm_R_br pm_M200 (pc_q := 18) (st_q := []) rfl rfl ?_
          refine pm_R_op pm_M200 (pc_q := 19) (st_q := [.int 0]) rfl rfl rfl ?_
          refine pm_R_ret pm_M200 (r := some (.int 0)) rfl rfl ?_
          show pm_R _ 293 11 [.ref 41, .int a0, .int a1, .int a2, pm_no, pm_no] [.int 0] _ _
          refine pm_R_br pm_M293 (pc_q := 23) (st_q := []) rfl rfl ?_
          refine pm_R_op pm_M293 (pc_q := 24) (st_q := [.int (-1)]) rfl rfl rfl ?_
          exact pm_R_ret pm_M293 (r := some (.int (-1))) rfl rfl (K (-1) m4 w h1 T2 F6 W9 (sf_weak sf_kn1 (by decide) (by decide)))
        · have V35 := rf_V.mk e11 ez26 e29 (Int32.not_lt.mp c34) B33 (by decide)
          have V35 := V35.back F6 (by decide)
          have B36 : sf_B 0 2 a1 := sf_leL (Int32.not_lt.mp c34) B33 B30
          have B37 : sf_B 0 2 z28 := sf_leR (Int32.not_lt.mp c34) B33 B30
          refine pm_R_op pm_M174 (pc_q := 11) (st_q := [.int 1]) rfl rfl rfl ?_
          refine pm_R_br pm_M174 (pc_q := 15) rfl rfl ?_
          refine pm_R_ret pm_M174 (r := some (.int 1)) rfl rfl ?_
          show pm_R _ 177 13 [.ref 41, .int 1, .int a1] [.int 1] _ _
          refine pm_R_ret pm_M177 (r := some (.int 1)) rfl rfl ?_
          show pm_R _ 200 15 [.ref 41, .int a0, .int a1] [.int 1] _ _
          refine pm_R_br pm_M200 (pc_q := 20) (st_q := []) rfl rfl ?_
          refine pm_R_lo pm_M200 (pc_q := 21) rfl rfl rfl ?_
          refine pm_R_lo pm_M200 (pc_q := 22) rfl rfl rfl ?_
          refine pm_R_lo pm_M200 (pc_q := 23) rfl rfl rfl ?_
          refine pm_R_cv pm_M200 (pc_q := 26) (a := 41) (ra := [.int a1, .int a0]) (rest := []) (ls_q := [.ref 41, .int a0, .int a1, pm_no]) rfl rfl (Or.inl rfl) pm_M201 T2.2.1 rfl (by decide) (Nat.lt_of_lt_of_le (by decide) T2.1) rfl rfl (Nat.le_of_ble_eq_true rfl) rfl rfl ?_
          refine rf_c201 (d := d + 4) T2 B23 B36 (V35.F F6 (by decide)) (fun m40 w41 h42 T43 F44 W45 X46 B47 => ?_)
          have F48 := F6.trans F44 (by decide)
          have W49 : rf_W [0, 23, 24, 26] m m40 := W9.trans W45 (by decide)
          show pm_R _ 200 26 [.ref 41, .int a0, .int a1] [] _ _
          refine pm_R_op pm_M200 (pc_q := 27) (st_q := [.int 1]) rfl rfl rfl ?_
          refine pm_R_ret pm_M200 (r := some (.int 1)) rfl rfl ?_
          show pm_R _ 293 11 [.ref 41, .int a0, .int a1, .int a2, pm_no, pm_no] [.int 1] _ _
          refine pm_R_br pm_M293 (pc_q := 14) (st_q := []) rfl rfl ?_
          refine pm_R_lo pm_M293 (pc_q := 15) rfl rfl rfl ?_
          refine pm_R_op pm_M293 (pc_q := 16) (st_q := [.int 1, .ref 41]) rfl rfl rfl ?_
          refine pm_R_lo pm_M293 (pc_q := 17) rfl rfl rfl ?_
          refine pm_R_cv pm_M293 (pc_q := 20) (a := 41) (ra := [.int a2, .int 1]) (rest := []) (ls_q := [.ref 41, .int 1, .int a2]) rfl rfl (Or.inl rfl) pm_M177 T43.2.1 rfl (by decide) (Nat.lt_of_lt_of_le (by decide) T43.1) rfl rfl (Nat.le_of_ble_eq_true rfl) rfl rfl ?_
          refine pm_R_lo pm_M177 (pc_q := 1) rfl rfl rfl ?_
          refine pm_R_op pm_M177 (pc_q := 2) (st_q := [.int 0, .int a2]) rfl rfl rfl ?_
          refine pm_R_lo pm_M177 (pc_q := 3) rfl rfl rfl ?_
          refine rf_R_get pm_M177 T43 (pc_q := 6) (v := .ref 46) rfl rfl rfl rfl ?_
          refine pm_R_lo pm_M177 (pc_q := 7) rfl rfl rfl ?_
          have e50 := (F44.cell (by decide) e11)
          refine pm_R_iald pm_M177 (pc_q := 8) (v := z25) rfl e50 (Nat.lt_of_lt_of_le (by decide) T43.1) rfl ez26 rfl ?_
          refine pm_R_op pm_M177 (pc_q := 9) (st_q := [.int 1, .int z25, .int 0, .int a2]) rfl rfl rfl ?_
          refine sf_R_isubV pm_M177 (pc_q := 10) rfl rfl B27 sf_k1 (by decide) (by decide) e29 ?_
          refine pm_R_cs pm_M177 (pc_q := 13) (ra := [.int z28, .int 0, .int a2]) (rest := []) (ls_q := [.int a2, .int 0, .int z28]) rfl rfl (Or.inl rfl) pm_M174 rfl rfl (Nat.le_of_ble_eq_true rfl) rfl rfl ?_
          refine pm_R_lo pm_M174 (pc_q := 1) rfl rfl rfl ?_
          refine pm_R_lo pm_M174 (pc_q := 2) rfl rfl rfl ?_
          refine pm_R_icmp pm_M174 (t := 14) (pc_q := 5) rfl rfl rfl (fun c53 => ?_) (fun c53 => ?_)
          · have B54 : sf_B (-2147483648) (-1) a2 := sf_ltL c53 (sf_any a2) sf_k0
            refine pm_R_op pm_M174 (pc_q := 15) (st_q := [.int 0]) rfl rfl rfl ?_
            refine pm_R_ret pm_M174 (r := some (.int 0)) rfl rfl ?_
            show pm_R _ 177 13 [.ref 41, .int 1, .int a2] [.int 0] _ _
            refine pm_R_ret pm_M177 (r := some (.int 0)) rfl rfl ?_
            show pm_R _ 293 20 [.ref 41, .int a0, .int a1, .int a2, pm_no, pm_no] [.int 0] _ _
            refine pm_R_br pm_M293 (pc_q := 23) (st_q := []) rfl rfl ?_
            refine pm_R_op pm_M293 (pc_q := 24) (st_q := [.int (-1)]) rfl rfl rfl ?_
            exact pm_R_ret pm_M293 (r := some (.int (-1))) rfl rfl (K (-1) m40 w41 h42 T43 F48 W49 (sf_weak sf_kn1 (by decide) (by decide)))
          · have B55 : sf_B 0 2147483647 a2 := sf_leR (Int32.not_lt.mp c53) sf_k0 (sf_any a2)
            refine pm_R_lo pm_M174 (pc_q := 6) rfl rfl rfl ?_
            refine pm_R_lo pm_M174 (pc_q := 7) rfl rfl rfl ?_
            refine pm_R_icmp pm_M174 (t := 14) (pc_q := 10) rfl rfl rfl (fun c56 => ?_) (fun c56 => ?_)
            · have B57 : sf_B 1 2147483647 a2 := sf_ltR c56 B37 B55
              refine pm_R_op pm_M174 (pc_q := 15) (st_q := [.int 0]) rfl rfl rfl ?_
              refine pm_R_ret pm_M174 (r := some (.int 0)) rfl rfl ?_
              show pm_R _ 177 13 [.ref 41, .int 1, .int a2] [.int 0] _ _
              refine pm_R_ret pm_M177 (r := some (.int 0)) rfl rfl ?_
              show pm_R _ 293 20 [.ref 41, .int a0, .int a1, .int a2, pm_no, pm_no] [.int 0] _ _
              refine pm_R_br pm_M293 (pc_q := 23) (st_q := []) rfl rfl ?_
              refine pm_R_op pm_M293 (pc_q := 24) (st_q := [.int (-1)]) rfl rfl rfl ?_
              exact pm_R_ret pm_M293 (r := some (.int (-1))) rfl rfl (K (-1) m40 w41 h42 T43 F48 W49 (sf_weak sf_kn1 (by decide) (by decide)))
            · have V58 := rf_V.mk e50 ez26 e29 (Int32.not_lt.mp c56) B55 (by decide)
              have V58 := V58.back F48 (by decide)
              have B59 : sf_B 0 2 a2 := sf_leL (Int32.not_lt.mp c56) B55 B37
              refine pm_R_op pm_M174 (pc_q := 11) (st_q := [.int 1]) rfl rfl rfl ?_
              refine pm_R_br pm_M174 (pc_q := 15) rfl rfl ?_
              refine pm_R_ret pm_M174 (r := some (.int 1)) rfl rfl ?_
              show pm_R _ 177 13 [.ref 41, .int 1, .int a2] [.int 1] _ _
              refine pm_R_ret pm_M177 (r := some (.int 1)) rfl rfl ?_
              show pm_R _ 293 20 [.ref 41, .int a0, .int a1, .int a2, pm_no, pm_no] [.int 1] _ _
              refine pm_R_br pm_M293 (pc_q := 25) (st_q := []) rfl rfl ?_
              refine pm_R_lo pm_M293 (pc_q := 26) rfl rfl rfl ?_
              refine pm_R_cv pm_M293 (pc_q := 29) (a := 41) (ra := []) (rest := []) (ls_q := [.ref 41]) rfl rfl (Or.inl rfl) pm_M215 T43.2.1 rfl (by decide) (Nat.lt_of_lt_of_le (by decide) T43.1) rfl rfl (Nat.le_of_ble_eq_true rfl) rfl rfl ?_
              refine rf_c215 (d := d + 0) T43 B47 (fun r60 m62 w63 h64 T65 F66 W67 => ?_)
              have F68 := F48.trans F66 (by decide)
              have B69 : sf_B 1 12 (m62 24) := by rw [W67 24 (by decide)]; exact B47
              have W70 : rf_W [0, 23, 24, 26] m m62 := W49.trans W67 (by decide)
              show pm_R _ 293 29 [.ref 41, .int a0, .int a1, .int a2, pm_no, pm_no] [.long r60] _ _
              refine pm_R_lo pm_M293 (pc_q := 31) (ls_q := [.ref 41, .int a0, .int a1, .int a2, .long r60, pm_no]) (st_q := []) rfl rfl rfl ?_
              refine pm_R_lo pm_M293 (pc_q := 32) rfl rfl rfl ?_
              refine pm_R_lo pm_M293 (pc_q := 33) rfl rfl rfl ?_
              refine pm_R_lo pm_M293 (pc_q := 34) rfl rfl rfl ?_
              refine pm_R_cv pm_M293 (pc_q := 37) (a := 41) (ra := [.int a2, .int a0]) (rest := []) (ls_q := [.ref 41, .int a0, .int a2, pm_no]) rfl rfl (Or.inl rfl) pm_M201 T65.2.1 rfl (by decide) (Nat.lt_of_lt_of_le (by decide) T65.1) rfl rfl (Nat.le_of_ble_eq_true rfl) rfl rfl ?_
              refine rf_c201 (d := d + 5) T65 B23 B59 (V58.F F68 (by decide)) (fun m73 w74 h75 T76 F77 W78 X79 B80 => ?_)
              have F81 := F68.trans F77 (by decide)
              have W82 : rf_W [0, 23, 24, 26] m m73 := W70.trans W78 (by decide)
              show pm_R _ 293 37 [.ref 41, .int a0, .int a1, .int a2, .long r60, pm_no] [] _ _
              refine pm_R_lo pm_M293 (pc_q := 39) rfl rfl rfl ?_
              refine pm_R_lo pm_M293 (pc_q := 40) rfl rfl rfl ?_
              refine pm_R_cv pm_M293 (pc_q := 43) (a := 41) (ra := []) (rest := [.long r60]) (ls_q := [.ref 41]) rfl rfl (Or.inl rfl) pm_M215 T76.2.1 rfl (by decide) (Nat.lt_of_lt_of_le (by decide) T76.1) rfl rfl (Nat.le_of_ble_eq_true rfl) rfl rfl ?_
              refine rf_c215 (d := d + 0) T76 B80 (fun r83 m85 w86 h87 T88 F89 W90 => ?_)
              have F91 := F81.trans F89 (by decide)
              have B92 : sf_B 1 12 (m85 24) := by rw [W90 24 (by decide)]; exact B80
              have W93 : rf_W [0, 23, 24, 26] m m85 := W82.trans W90 (by decide)
              show pm_R _ 293 43 [.ref 41, .int a0, .int a1, .int a2, .long r60, pm_no] [.long r83, .long r60] _ _
              refine sf_R_lany pm_M293 (pc_q := 44) (st := []) rfl rfl rfl (fun z94 => ?_)
              refine pm_R_cs pm_M293 (pc_q := 47) (ra := [.long z94]) (rest := []) (ls_q := [.long z94, pm_no, pm_no, pm_no]) rfl rfl (Or.inl rfl) pm_M222 rfl rfl (Nat.le_of_ble_eq_true rfl) rfl rfl ?_
              refine rf_c222 (d := d + 4)  (fun r95 B96 => ?_)
              show pm_R _ 293 47 [.ref 41, .int a0, .int a1, .int a2, .long r60, pm_no] [.int r95] _ _
              exact pm_R_ret pm_M293 (r := some (.int r95)) rfl (pm_ret_i _) (K r95 m85 w86 h87 T88 F91 W93 (sf_weak B96 (by decide) (by decide)))

set_option maxRecDepth 100000 in
set_option maxHeartbeats 4000000 in
/-- SilentTableModel.caught -/
theorem rf_c260 {d : Nat} {m : Nat → Int32} {w : Int64} {h : pm_H} {Q : Option Value → pm_H → Prop} {a0 : Int32} {a1 : Int32} {a2 : Int32} {a3 : Int32} (T : rf_T m w h)  (K : ∀ (r : Int32) (m_q : Nat → Int32) (w_q : Int64) (h_q : pm_H), rf_T m_q w_q h_q → rf_G [41, 67, 68, 69] h h_q → rf_W [0, 42, 43, 44, 47] m m_q → Q (some (.int r)) h_q) : pm_R (d + 4) 260 0 [.ref 41, .int a0, .int a1, .int a2, .int a3] [] h Q := by
  refine pm_R_lo pm_M260 (pc_q := 1) rfl rfl rfl ?_
  refine pm_R_op pm_M260 (pc_q := 2) (st_q := [.int 0, .ref 41]) rfl rfl rfl ?_
  refine rf_R_put pm_M260 T (pc_q := 5) rfl rfl rfl (by decide) rfl rfl sf_k0 rfl rfl (fun h1 m4 em5 T2 F3 => ?_)
  have F6 := (rf_G.refl [41, 67, 68, 69] h).trans F3 (by decide)
  have B7 : sf_B 0 0 (m4 0) := by rw [em5]; exact sf_k0
  have W9 : rf_W [0, 42, 43, 44, 47] m m4 := by rw [em5]; exact (rf_W.refl [0, 42, 43, 44, 47] m).put (by decide)
  refine pm_R_lo pm_M260 (pc_q := 6) rfl rfl rfl ?_
  refine pm_R_lo pm_M260 (pc_q := 7) rfl rfl rfl ?_
  refine pm_R_lo pm_M260 (pc_q := 8) rfl rfl rfl ?_
  refine pm_R_lo pm_M260 (pc_q := 9) rfl rfl rfl ?_
  refine pm_R_cv pm_M260 (pc_q := 12) (a := 41) (ra := [.int a2, .int a1, .int a0]) (rest := []) (ls_q := [.ref 41, .int a0, .int a1, .int a2, pm_no]) rfl rfl (Or.inl rfl) pm_M261 T2.2.1 rfl (by decide) (Nat.lt_of_lt_of_le (by decide) T2.1) rfl rfl (Nat.le_of_ble_eq_true rfl) rfl rfl ?_
  refine rf_c261 (d := d + 0) T2  (fun r10 m12 w13 h14 T15 F16 W17 B11 => ?_)
  have F18 := F6.trans F16 (by decide)
  have W19 : rf_W [0, 42, 43, 44, 47] m m12 := W9.trans W17 (by decide)
  show pm_R _ 260 12 [.ref 41, .int a0, .int a1, .int a2, .int a3] [.int r10] _ _
  refine pm_R_ifc pm_M260 (t := 18) (pc_q := 15) rfl rfl rfl (fun c20 => ?_) (fun c20 => ?_)
  · have B21 : sf_B 1 1 r10 := sf_neL0 c20 sf_k0 B11
    refine pm_R_lo pm_M260 (pc_q := 20) rfl rfl rfl ?_
    refine pm_R_op pm_M260 (pc_q := 21) (st_q := [.int (-1), .int a3]) rfl rfl rfl ?_
    refine pm_R_icmp pm_M260 (t := 31) (pc_q := 24) rfl rfl rfl (fun c22 => ?_) (fun c22 => ?_)
    · skip
      refine pm_R_lo pm_M260 (pc_q := 33) rfl rfl rfl ?_
      refine pm_R_op pm_M260 (pc_q := 34) (st_q := [.int 0, .int a3]) rfl rfl rfl ?_
      refine pm_R_lo pm_M260 (pc_q := 35) rfl rfl rfl ?_
      have B23 : sf_B 0 50 (m12 47) := T15.2.2.1 47
      refine rf_R_get pm_M260 T15 (pc_q := 38) (v := .int (m12 47)) rfl rfl rfl rfl ?_
      refine pm_R_op pm_M260 (pc_q := 39) (st_q := [.int 1, .int (m12 47), .int 0, .int a3]) rfl rfl rfl ?_
      refine sf_R_isub pm_M260 (pc_q := 40) rfl rfl B23 sf_k1 (by decide) (by decide) (fun z24 e25 B26 => ?_)
      refine pm_R_cs pm_M260 (pc_q := 43) (ra := [.int z24, .int 0, .int a3]) (rest := []) (ls_q := [.int a3, .int 0, .int z24]) rfl rfl (Or.inl rfl) pm_M174 rfl rfl (Nat.le_of_ble_eq_true rfl) rfl rfl ?_
      refine pm_R_lo pm_M174 (pc_q := 1) rfl rfl rfl ?_
      refine pm_R_lo pm_M174 (pc_q := 2) rfl rfl rfl ?_
      refine pm_R_icmp pm_M174 (t := 14) (pc_q := 5) rfl rfl rfl (fun c27 => ?_) (fun c27 => ?_)
      · have B28 : sf_B (-2147483648) (-1) a3 := sf_ltL c27 (sf_any a3) sf_k0
        refine pm_R_op pm_M174 (pc_q := 15) (st_q := [.int 0]) rfl rfl rfl ?_
        refine pm_R_ret pm_M174 (r := some (.int 0)) rfl rfl ?_
        show pm_R _ 260 43 [.ref 41, .int a0, .int a1, .int a2, .int a3] [.int 0] _ _
        refine pm_R_br pm_M260 (pc_q := 56) (st_q := []) rfl rfl ?_
        refine pm_R_op pm_M260 (pc_q := 58) (st_q := [.int (-2)]) rfl rfl rfl ?_
        exact pm_R_ret pm_M260 (r := some (.int (-2))) rfl rfl (K (-2) m12 w13 h14 T15 F18 W19)
      · have B29 : sf_B 0 2147483647 a3 := sf_leR (Int32.not_lt.mp c27) sf_k0 (sf_any a3)
        refine pm_R_lo pm_M174 (pc_q := 6) rfl rfl rfl ?_
        refine pm_R_lo pm_M174 (pc_q := 7) rfl rfl rfl ?_
        refine pm_R_icmp pm_M174 (t := 14) (pc_q := 10) rfl rfl rfl (fun c30 => ?_) (fun c30 => ?_)
        · skip
          refine pm_R_op pm_M174 (pc_q := 15) (st_q := [.int 0]) rfl rfl rfl ?_
          refine pm_R_ret pm_M174 (r := some (.int 0)) rfl rfl ?_
          show pm_R _ 260 43 [.ref 41, .int a0, .int a1, .int a2, .int a3] [.int 0] _ _
          refine pm_R_br pm_M260 (pc_q := 56) (st_q := []) rfl rfl ?_
          refine pm_R_op pm_M260 (pc_q := 58) (st_q := [.int (-2)]) rfl rfl rfl ?_
          exact pm_R_ret pm_M260 (r := some (.int (-2))) rfl rfl (K (-2) m12 w13 h14 T15 F18 W19)
        · have B31 : sf_B 0 49 a3 := sf_leL (Int32.not_lt.mp c30) B29 B26
          have B32 : sf_B 0 49 z24 := sf_leR (Int32.not_lt.mp c30) B29 B26
          refine pm_R_op pm_M174 (pc_q := 11) (st_q := [.int 1]) rfl rfl rfl ?_
          refine pm_R_br pm_M174 (pc_q := 15) rfl rfl ?_
          refine pm_R_ret pm_M174 (r := some (.int 1)) rfl rfl ?_
          show pm_R _ 260 43 [.ref 41, .int a0, .int a1, .int a2, .int a3] [.int 1] _ _
          refine pm_R_br pm_M260 (pc_q := 46) (st_q := []) rfl rfl ?_
          refine pm_R_lo pm_M260 (pc_q := 47) rfl rfl rfl ?_
          refine rf_R_get pm_M260 T15 (pc_q := 50) (v := .ref 69) rfl rfl rfl rfl ?_
          refine pm_R_lo pm_M260 (pc_q := 52) rfl rfl rfl ?_
          obtain ⟨f33, e34⟩ := T15.2.2.2.1 69 (by decide) (by decide)
          refine rf_R_ild pm_M260 T15 (pc_q := 53) rfl e34 (by decide) (sf_in B31 (by decide) (by decide)) rfl (fun z36 ez37 => ?_)
          refine pm_R_br pm_M260 (pc_q := 58) rfl rfl ?_
          exact pm_R_ret pm_M260 (r := some (.int z36)) rfl (pm_ret_i _) (K z36 m12 w13 h14 T15 F18 W19)
    · have B38 : sf_B (-1) (-1) a3 := sf_eqL (Classical.not_not.mp c22) sf_kn1
      refine pm_R_lo pm_M260 (pc_q := 25) rfl rfl rfl ?_
      have B39 : sf_B 0 50 (m12 47) := T15.2.2.1 47
      refine rf_R_get pm_M260 T15 (pc_q := 28) (v := .int (m12 47)) rfl rfl rfl rfl ?_
      refine pm_R_br pm_M260 (pc_q := 58) rfl rfl ?_
      exact pm_R_ret pm_M260 (r := some (.int (m12 47))) rfl (pm_ret_i _) (K (m12 47) m12 w13 h14 T15 F18 W19)
  · have B40 : sf_B 0 0 r10 := sf_eqL (Classical.not_not.mp c20) sf_k0
    refine pm_R_op pm_M260 (pc_q := 17) (st_q := [.int (-2)]) rfl rfl rfl ?_
    exact pm_R_ret pm_M260 (r := some (.int (-2))) rfl rfl (K (-2) m12 w13 h14 T15 F18 W19)

set_option maxRecDepth 100000 in
set_option maxHeartbeats 4000000 in
/-- SilentTableModel.knows -/
theorem rf_c262 {d : Nat} {m : Nat → Int32} {w : Int64} {h : pm_H} {Q : Option Value → pm_H → Prop} {a0 : Int32} {a1 : Int32} {a2 : Int32} {a3 : Int32} {a4 : Int32} (T : rf_T m w h)  (K : ∀ (r : Int32) (m_q : Nat → Int32) (w_q : Int64) (h_q : pm_H), rf_T m_q w_q h_q → rf_G [41, 53, 54, 67, 68, 69] h h_q → rf_W [0, 23, 24, 26, 42, 43, 44, 47] m m_q → sf_B (-2) 50 r → Q (some (.int r)) h_q) : pm_R (d + 7) 262 0 [.ref 41, .int a0, .int a1, .int a2, .int a3, .int a4] [] h Q := by
  refine pm_R_lo pm_M262 (pc_q := 1) rfl rfl rfl ?_
  refine pm_R_op pm_M262 (pc_q := 2) (st_q := [.int 0, .ref 41]) rfl rfl rfl ?_
  refine rf_R_put pm_M262 T (pc_q := 5) rfl rfl rfl (by decide) rfl rfl sf_k0 rfl rfl (fun h1 m4 em5 T2 F3 => ?_)
  have F6 := (rf_G.refl [41, 53, 54, 67, 68, 69] h).trans F3 (by decide)
  have B7 : sf_B 0 0 (m4 0) := by rw [em5]; exact sf_k0
  have W9 : rf_W [0, 23, 24, 26, 42, 43, 44, 47] m m4 := by rw [em5]; exact (rf_W.refl [0, 23, 24, 26, 42, 43, 44, 47] m).put (by decide)
  refine pm_R_lo pm_M262 (pc_q := 6) rfl rfl rfl ?_
  refine pm_R_op pm_M262 (pc_q := 7) (st_q := [.int 0, .ref 41]) rfl rfl rfl ?_
  refine pm_R_lo pm_M262 (pc_q := 8) rfl rfl rfl ?_
  refine pm_R_cv pm_M262 (pc_q := 11) (a := 41) (ra := [.int a0, .int 0]) (rest := []) (ls_q := [.ref 41, .int 0, .int a0]) rfl rfl (Or.inl rfl) pm_M177 T2.2.1 rfl (by decide) (Nat.lt_of_lt_of_le (by decide) T2.1) rfl rfl (Nat.le_of_ble_eq_true rfl) rfl rfl ?_
  refine pm_R_lo pm_M177 (pc_q := 1) rfl rfl rfl ?_
  refine pm_R_op pm_M177 (pc_q := 2) (st_q := [.int 0, .int a0]) rfl rfl rfl ?_
  refine pm_R_lo pm_M177 (pc_q := 3) rfl rfl rfl ?_
  refine rf_R_get pm_M177 T2 (pc_q := 6) (v := .ref 46) rfl rfl rfl rfl ?_
  refine pm_R_lo pm_M177 (pc_q := 7) rfl rfl rfl ?_
  obtain ⟨f10, e11, b12⟩ := T2.2.2.2.1 46 (by decide) (by decide)
  refine rf_R_ild pm_M177 T2 (pc_q := 8) rfl e11 (by decide) rfl rfl (fun z13 ez14 => ?_)
  have B15 : sf_B 0 2 z13 := ez14 ▸ (b12 0)
  refine pm_R_op pm_M177 (pc_q := 9) (st_q := [.int 1, .int z13, .int 0, .int a0]) rfl rfl rfl ?_
  refine sf_R_isub pm_M177 (pc_q := 10) rfl rfl B15 sf_k1 (by decide) (by decide) (fun z16 e17 B18 => ?_)
  refine pm_R_cs pm_M177 (pc_q := 13) (ra := [.int z16, .int 0, .int a0]) (rest := []) (ls_q := [.int a0, .int 0, .int z16]) rfl rfl (Or.inl rfl) pm_M174 rfl rfl (Nat.le_of_ble_eq_true rfl) rfl rfl ?_
  refine pm_R_lo pm_M174 (pc_q := 1) rfl rfl rfl ?_
  refine pm_R_lo pm_M174 (pc_q := 2) rfl rfl rfl ?_
  refine pm_R_icmp pm_M174 (t := 14) (pc_q := 5) rfl rfl rfl (fun c19 => ?_) (fun c19 => ?_)
  · have B20 : sf_B (-2147483648) (-1) a0 := sf_ltL c19 (sf_any a0) sf_k0
    refine pm_R_op pm_M174 (pc_q := 15) (st_q := [.int 0]) rfl rfl rfl ?_
    refine pm_R_ret pm_M174 (r := some (.int 0)) rfl rfl ?_
    show pm_R _ 177 13 [.ref 41, .int 0, .int a0] [.int 0] _ _
    refine pm_R_ret pm_M177 (r := some (.int 0)) rfl rfl ?_
    show pm_R _ 262 11 [.ref 41, .int a0, .int a1, .int a2, .int a3, .int a4] [.int 0] _ _
    refine pm_R_br pm_M262 (pc_q := 38) (st_q := []) rfl rfl ?_
    refine pm_R_op pm_M262 (pc_q := 40) (st_q := [.int (-2)]) rfl rfl rfl ?_
    exact pm_R_ret pm_M262 (r := some (.int (-2))) rfl rfl (K (-2) m4 w h1 T2 F6 W9 (sf_weak sf_kn2 (by decide) (by decide)))
  · have B21 : sf_B 0 2147483647 a0 := sf_leR (Int32.not_lt.mp c19) sf_k0 (sf_any a0)
    refine pm_R_lo pm_M174 (pc_q := 6) rfl rfl rfl ?_
    refine pm_R_lo pm_M174 (pc_q := 7) rfl rfl rfl ?_
    refine pm_R_icmp pm_M174 (t := 14) (pc_q := 10) rfl rfl rfl (fun c22 => ?_) (fun c22 => ?_)
    · skip
      refine pm_R_op pm_M174 (pc_q := 15) (st_q := [.int 0]) rfl rfl rfl ?_
      refine pm_R_ret pm_M174 (r := some (.int 0)) rfl rfl ?_
      show pm_R _ 177 13 [.ref 41, .int 0, .int a0] [.int 0] _ _
      refine pm_R_ret pm_M177 (r := some (.int 0)) rfl rfl ?_
      show pm_R _ 262 11 [.ref 41, .int a0, .int a1, .int a2, .int a3, .int a4] [.int 0] _ _
      refine pm_R_br pm_M262 (pc_q := 38) (st_q := []) rfl rfl ?_
      refine pm_R_op pm_M262 (pc_q := 40) (st_q := [.int (-2)]) rfl rfl rfl ?_
      exact pm_R_ret pm_M262 (r := some (.int (-2))) rfl rfl (K (-2) m4 w h1 T2 F6 W9 (sf_weak sf_kn2 (by decide) (by decide)))
    · have B23 : sf_B 0 1 a0 := sf_leL (Int32.not_lt.mp c22) B21 B18
      have B24 : sf_B 0 1 z16 := sf_leR (Int32.not_lt.mp c22) B21 B18
      refine pm_R_op pm_M174 (pc_q := 11) (st_q := [.int 1]) rfl rfl rfl ?_
      refine pm_R_br pm_M174 (pc_q := 15) rfl rfl ?_
      refine pm_R_ret pm_M174 (r := some (.int 1)) rfl rfl ?_
      show pm_R _ 177 13 [.ref 41, .int 0, .int a0] [.int 1] _ _
      refine pm_R_ret pm_M177 (r := some (.int 1)) rfl rfl ?_
      show pm_R _ 262 11 [.ref 41, .int a0, .int a1, .int a2, .int a3, .int a4] [.int 1] _ _
      refine pm_R_br pm_M262 (pc_q := 14) (st_q := []) rfl rfl ?_
      refine pm_R_lo pm_M262 (pc_q := 15) rfl rfl rfl ?_
      refine pm_R_lo pm_M262 (pc_q := 16) rfl rfl rfl ?_
      refine pm_R_lo pm_M262 (pc_q := 17) rfl rfl rfl ?_
      refine pm_R_lo pm_M262 (pc_q := 19) rfl rfl rfl ?_
      refine pm_R_cv pm_M262 (pc_q := 22) (a := 41) (ra := [.int a3, .int a2, .int a1]) (rest := []) (ls_q := [.ref 41, .int a1, .int a2, .int a3, pm_no]) rfl rfl (Or.inl rfl) pm_M261 T2.2.1 rfl (by decide) (Nat.lt_of_lt_of_le (by decide) T2.1) rfl rfl (Nat.le_of_ble_eq_true rfl) rfl rfl ?_
      refine rf_c261 (d := d + 3) T2  (fun r25 m27 w28 h29 T30 F31 W32 B26 => ?_)
      have F33 := F6.trans F31 (by decide)
      have W34 : rf_W [0, 23, 24, 26, 42, 43, 44, 47] m m27 := W9.trans W32 (by decide)
      show pm_R _ 262 22 [.ref 41, .int a0, .int a1, .int a2, .int a3, .int a4] [.int r25] _ _
      refine pm_R_ifc pm_M262 (t := 38) (pc_q := 25) rfl rfl rfl (fun c35 => ?_) (fun c35 => ?_)
      · have B36 : sf_B 0 0 r25 := sf_eqL c35 sf_k0
        refine pm_R_op pm_M262 (pc_q := 40) (st_q := [.int (-2)]) rfl rfl rfl ?_
        exact pm_R_ret pm_M262 (r := some (.int (-2))) rfl rfl (K (-2) m27 w28 h29 T30 F33 W34 (sf_weak sf_kn2 (by decide) (by decide)))
      · have B37 : sf_B 1 1 r25 := sf_neL0 c35 sf_k0 B26
        refine pm_R_lo pm_M262 (pc_q := 26) rfl rfl rfl ?_
        refine pm_R_lo pm_M262 (pc_q := 27) rfl rfl rfl ?_
        refine pm_R_cv pm_M262 (pc_q := 30) (a := 41) (ra := [.int a0]) (rest := []) (ls_q := [.ref 41, .int a0, pm_no]) rfl rfl (Or.inl rfl) pm_M263 T30.2.1 rfl (by decide) (Nat.lt_of_lt_of_le (by decide) T30.1) rfl rfl (Nat.le_of_ble_eq_true rfl) rfl rfl ?_
        refine rf_c263 (d := d + 0) T30 B23 (fun r38 m40 w41 h42 T43 F44 W45 => ?_)
        have F46 := F33.trans F44 (by decide)
        have W47 : rf_W [0, 23, 24, 26, 42, 43, 44, 47] m m40 := W34.trans W45 (by decide)
        show pm_R _ 262 30 [.ref 41, .int a0, .int a1, .int a2, .int a3, .int a4] [.long r38] _ _
        refine pm_R_lo pm_M262 (pc_q := 32) rfl rfl rfl ?_
        refine pm_R_cs pm_M262 (pc_q := 35) (ra := [.int a4, .long r38]) (rest := []) (ls_q := [.long r38, pm_no, .int a4, pm_no, pm_no]) rfl rfl (Or.inl rfl) pm_M221 rfl rfl (Nat.le_of_ble_eq_true rfl) rfl rfl ?_
        refine rf_c221 (d := d + 4)  (fun r48 B49 => ?_)
        show pm_R _ 262 35 [.ref 41, .int a0, .int a1, .int a2, .int a3, .int a4] [.int r48] _ _
        refine pm_R_br pm_M262 (pc_q := 40) rfl rfl ?_
        exact pm_R_ret pm_M262 (r := some (.int r48)) rfl (pm_ret_i _) (K r48 m40 w41 h42 T43 F46 W47 B49)

set_option maxRecDepth 100000 in
set_option maxHeartbeats 4000000 in
/-- SilentTableModel.sure -/
theorem rf_c264 {d : Nat} {m : Nat → Int32} {w : Int64} {h : pm_H} {Q : Option Value → pm_H → Prop} {a0 : Int32} {a1 : Int32} {a2 : Int32} (T : rf_T m w h)  (K : ∀ (r : Int32) (m_q : Nat → Int32) (w_q : Int64) (h_q : pm_H), rf_T m_q w_q h_q → rf_G [41, 53, 54, 67, 68, 69] h h_q → rf_W [0, 23, 24, 26, 42, 43, 44, 47] m m_q → Q (some (.int r)) h_q) : pm_R (d + 7) 264 0 [.ref 41, .int a0, .int a1, .int a2, pm_no, pm_no, pm_no, pm_no, pm_no] [] h Q := by
  refine pm_R_lo pm_M264 (pc_q := 1) rfl rfl rfl ?_
  refine pm_R_op pm_M264 (pc_q := 2) (st_q := [.int 0, .ref 41]) rfl rfl rfl ?_
  refine rf_R_put pm_M264 T (pc_q := 5) rfl rfl rfl (by decide) rfl rfl sf_k0 rfl rfl (fun h1 m4 em5 T2 F3 => ?_)
  have F6 := (rf_G.refl [41, 53, 54, 67, 68, 69] h).trans F3 (by decide)
  have B7 : sf_B 0 0 (m4 0) := by rw [em5]; exact sf_k0
  have W9 : rf_W [0, 23, 24, 26, 42, 43, 44, 47] m m4 := by rw [em5]; exact (rf_W.refl [0, 23, 24, 26, 42, 43, 44, 47] m).put (by decide)
  refine pm_R_lo pm_M264 (pc_q := 6) rfl rfl rfl ?_
  refine pm_R_op pm_M264 (pc_q := 7) (st_q := [.int 0, .ref 41]) rfl rfl rfl ?_
  refine pm_R_lo pm_M264 (pc_q := 8) rfl rfl rfl ?_
  refine pm_R_cv pm_M264 (pc_q := 11) (a := 41) (ra := [.int a0, .int 0]) (rest := []) (ls_q := [.ref 41, .int 0, .int a0]) rfl rfl (Or.inl rfl) pm_M177 T2.2.1 rfl (by decide) (Nat.lt_of_lt_of_le (by decide) T2.1) rfl rfl (Nat.le_of_ble_eq_true rfl) rfl rfl ?_
  refine pm_R_lo pm_M177 (pc_q := 1) rfl rfl rfl ?_
  refine pm_R_op pm_M177 (pc_q := 2) (st_q := [.int 0, .int a0]) rfl rfl rfl ?_
  refine pm_R_lo pm_M177 (pc_q := 3) rfl rfl rfl ?_
  refine rf_R_get pm_M177 T2 (pc_q := 6) (v := .ref 46) rfl rfl rfl rfl ?_
  refine pm_R_lo pm_M177 (pc_q := 7) rfl rfl rfl ?_
  obtain ⟨f10, e11, b12⟩ := T2.2.2.2.1 46 (by decide) (by decide)
  refine rf_R_ild pm_M177 T2 (pc_q := 8) rfl e11 (by decide) rfl rfl (fun z13 ez14 => ?_)
  have B15 : sf_B 0 2 z13 := ez14 ▸ (b12 0)
  refine pm_R_op pm_M177 (pc_q := 9) (st_q := [.int 1, .int z13, .int 0, .int a0]) rfl rfl rfl ?_
  refine sf_R_isub pm_M177 (pc_q := 10) rfl rfl B15 sf_k1 (by decide) (by decide) (fun z16 e17 B18 => ?_)
  refine pm_R_cs pm_M177 (pc_q := 13) (ra := [.int z16, .int 0, .int a0]) (rest := []) (ls_q := [.int a0, .int 0, .int z16]) rfl rfl (Or.inl rfl) pm_M174 rfl rfl (Nat.le_of_ble_eq_true rfl) rfl rfl ?_
  refine pm_R_lo pm_M174 (pc_q := 1) rfl rfl rfl ?_
  refine pm_R_lo pm_M174 (pc_q := 2) rfl rfl rfl ?_
  refine pm_R_icmp pm_M174 (t := 14) (pc_q := 5) rfl rfl rfl (fun c19 => ?_) (fun c19 => ?_)
  · have B20 : sf_B (-2147483648) (-1) a0 := sf_ltL c19 (sf_any a0) sf_k0
    refine pm_R_op pm_M174 (pc_q := 15) (st_q := [.int 0]) rfl rfl rfl ?_
    refine pm_R_ret pm_M174 (r := some (.int 0)) rfl rfl ?_
    show pm_R _ 177 13 [.ref 41, .int 0, .int a0] [.int 0] _ _
    refine pm_R_ret pm_M177 (r := some (.int 0)) rfl rfl ?_
    show pm_R _ 264 11 [.ref 41, .int a0, .int a1, .int a2, pm_no, pm_no, pm_no, pm_no, pm_no] [.int 0] _ _
    refine pm_R_br pm_M264 (pc_q := 24) (st_q := []) rfl rfl ?_
    refine pm_R_op pm_M264 (pc_q := 25) (st_q := [.int (-1)]) rfl rfl rfl ?_
    exact pm_R_ret pm_M264 (r := some (.int (-1))) rfl rfl (K (-1) m4 w h1 T2 F6 W9)
  · have B21 : sf_B 0 2147483647 a0 := sf_leR (Int32.not_lt.mp c19) sf_k0 (sf_any a0)
    refine pm_R_lo pm_M174 (pc_q := 6) rfl rfl rfl ?_
    refine pm_R_lo pm_M174 (pc_q := 7) rfl rfl rfl ?_
    refine pm_R_icmp pm_M174 (t := 14) (pc_q := 10) rfl rfl rfl (fun c22 => ?_) (fun c22 => ?_)
    · skip
      refine pm_R_op pm_M174 (pc_q := 15) (st_q := [.int 0]) rfl rfl rfl ?_
      refine pm_R_ret pm_M174 (r := some (.int 0)) rfl rfl ?_
      show pm_R _ 177 13 [.ref 41, .int 0, .int a0] [.int 0] _ _
      refine pm_R_ret pm_M177 (r := some (.int 0)) rfl rfl ?_
      show pm_R _ 264 11 [.ref 41, .int a0, .int a1, .int a2, pm_no, pm_no, pm_no, pm_no, pm_no] [.int 0] _ _
      refine pm_R_br pm_M264 (pc_q := 24) (st_q := []) rfl rfl ?_
      refine pm_R_op pm_M264 (pc_q := 25) (st_q := [.int (-1)]) rfl rfl rfl ?_
      exact pm_R_ret pm_M264 (r := some (.int (-1))) rfl rfl (K (-1) m4 w h1 T2 F6 W9)
    · have B23 : sf_B 0 1 a0 := sf_leL (Int32.not_lt.mp c22) B21 B18
      have B24 : sf_B 0 1 z16 := sf_leR (Int32.not_lt.mp c22) B21 B18
      refine pm_R_op pm_M174 (pc_q := 11) (st_q := [.int 1]) rfl rfl rfl ?_
      refine pm_R_br pm_M174 (pc_q := 15) rfl rfl ?_
      refine pm_R_ret pm_M174 (r := some (.int 1)) rfl rfl ?_
      show pm_R _ 177 13 [.ref 41, .int 0, .int a0] [.int 1] _ _
      refine pm_R_ret pm_M177 (r := some (.int 1)) rfl rfl ?_
      show pm_R _ 264 11 [.ref 41, .int a0, .int a1, .int a2, pm_no, pm_no, pm_no, pm_no, pm_no] [.int 1] _ _
      refine pm_R_br pm_M264 (pc_q := 14) (st_q := []) rfl rfl ?_
      refine pm_R_lo pm_M264 (pc_q := 15) rfl rfl rfl ?_
      refine pm_R_lo pm_M264 (pc_q := 16) rfl rfl rfl ?_
      refine pm_R_op pm_M264 (pc_q := 17) (st_q := [.int (-1), .int a1, .ref 41]) rfl rfl rfl ?_
      refine pm_R_lo pm_M264 (pc_q := 18) rfl rfl rfl ?_
      refine pm_R_cv pm_M264 (pc_q := 21) (a := 41) (ra := [.int a2, .int (-1), .int a1]) (rest := []) (ls_q := [.ref 41, .int a1, .int (-1), .int a2, pm_no]) rfl rfl (Or.inl rfl) pm_M261 T2.2.1 rfl (by decide) (Nat.lt_of_lt_of_le (by decide) T2.1) rfl rfl (Nat.le_of_ble_eq_true rfl) rfl rfl ?_
      refine rf_c261 (d := d + 3) T2  (fun r25 m27 w28 h29 T30 F31 W32 B26 => ?_)
      have F33 := F6.trans F31 (by decide)
      have W34 : rf_W [0, 23, 24, 26, 42, 43, 44, 47] m m27 := W9.trans W32 (by decide)
      show pm_R _ 264 21 [.ref 41, .int a0, .int a1, .int a2, pm_no, pm_no, pm_no, pm_no, pm_no] [.int r25] _ _
      refine pm_R_ifc pm_M264 (t := 26) (pc_q := 24) rfl rfl rfl (fun c35 => ?_) (fun c35 => ?_)
      · have B36 : sf_B 1 1 r25 := sf_neL0 c35 sf_k0 B26
        refine pm_R_lo pm_M264 (pc_q := 27) rfl rfl rfl ?_
        refine pm_R_lo pm_M264 (pc_q := 28) rfl rfl rfl ?_
        refine pm_R_cv pm_M264 (pc_q := 31) (a := 41) (ra := [.int a0]) (rest := []) (ls_q := [.ref 41, .int a0, pm_no]) rfl rfl (Or.inl rfl) pm_M263 T30.2.1 rfl (by decide) (Nat.lt_of_lt_of_le (by decide) T30.1) rfl rfl (Nat.le_of_ble_eq_true rfl) rfl rfl ?_
        refine rf_c263 (d := d + 0) T30 B23 (fun r37 m39 w40 h41 T42 F43 W44 => ?_)
        have F45 := F33.trans F43 (by decide)
        have W46 : rf_W [0, 23, 24, 26, 42, 43, 44, 47] m m39 := W34.trans W44 (by decide)
        show pm_R _ 264 31 [.ref 41, .int a0, .int a1, .int a2, pm_no, pm_no, pm_no, pm_no, pm_no] [.long r37] _ _
        refine pm_R_lo pm_M264 (pc_q := 33) (ls_q := [.ref 41, .int a0, .int a1, .int a2, .long r37, pm_no, pm_no, pm_no, pm_no]) (st_q := []) rfl rfl rfl ?_
        refine pm_R_op pm_M264 (pc_q := 34) (st_q := [.int 0]) rfl rfl rfl ?_
        refine pm_R_lo pm_M264 (pc_q := 36) (ls_q := [.ref 41, .int a0, .int a1, .int a2, .long r37, pm_no, .int 0, pm_no, pm_no]) (st_q := []) rfl rfl rfl ?_
        refine pm_R_op pm_M264 (pc_q := 37) (st_q := [.int 0]) rfl rfl rfl ?_
        refine pm_R_lo pm_M264 (pc_q := 39) (ls_q := [.ref 41, .int a0, .int a1, .int a2, .long r37, pm_no, .int 0, .int 0, pm_no]) (st_q := []) rfl rfl rfl ?_
        have L_492 : ∀ (N : Nat) (h_492 : pm_H) (m_492 : Nat → Int32) (w_492 : Int64) (x6_492 : Int32) (x7_492 : Int32) (g8_492 : Value), rf_T m_492 w_492 h_492 → rf_G [41, 53, 54, 67, 68, 69] h h_492 → rf_W [23, 24, 26, 42, 43, 44, 47] m39 m_492 → sf_B (-2147483648) 2147483647 x6_492 → sf_B 0 6 x7_492 → g8_492.category = 1 → (6 - x7_492.toInt).toNat = N → pm_R (d + 7) 264 39 [.ref 41, .int a0, .int a1, .int a2, .long r37, pm_no, .int x6_492, .int x7_492, g8_492] [] h_492 Q := by
          intro N
          induction N using Nat.strongRecOn with
          | ind N ih_492 =>
            intro h_492 m_492 w_492 x6_492 x7_492 g8_492 T_492 F_492 W_492 Bx6_492 Bx7_492 Cg8_492 hN_492
            have W495 : rf_W [0, 23, 24, 26, 42, 43, 44, 47] m m_492 := W46.trans W_492 (by decide)
            refine pm_R_lo pm_M264 (pc_q := 41) rfl rfl rfl ?_
            refine pm_R_lo pm_M264 (pc_q := 42) rfl rfl rfl ?_
            have B496 : sf_B 0 6 (m_492 42) := T_492.2.2.1 42
            refine rf_R_get pm_M264 T_492 (pc_q := 45) (v := .int (m_492 42)) rfl rfl rfl rfl ?_
            refine pm_R_icmp pm_M264 (t := 116) (pc_q := 48) rfl rfl rfl (fun c497 => ?_) (fun c497 => ?_)
            · skip
              refine pm_R_lo pm_M264 (pc_q := 118) (pm_q264_1 (Nat.le_of_ble_eq_true rfl)) rfl rfl ?_
              exact pm_R_ret pm_M264 (r := some (.int x6_492)) (pm_q264_1 (Nat.le_of_ble_eq_true rfl)) (pm_ret_i _) (K x6_492 m_492 w_492 h_492 T_492 F_492 W495)
            · have B498 : sf_B 0 5 x7_492 := sf_ltL (Int32.not_le.mp c497) Bx7_492 B496
              have B499 : sf_B 1 6 (m_492 42) := sf_ltR (Int32.not_le.mp c497) Bx7_492 B496
              refine pm_R_lo pm_M264 (pc_q := 50) rfl rfl rfl ?_
              refine pm_R_lo pm_M264 (pc_q := 51) rfl rfl rfl ?_
              refine pm_R_icmp pm_M264 (t := 78) (pc_q := 54) rfl rfl rfl (fun c500 => ?_) (fun c500 => ?_)
              · have B501 : sf_B 0 5 a2 := sf_eqR c500 B498
                refine pm_R_op pm_M264 (pc_q := 79) (st_q := [.int 0]) rfl rfl rfl ?_
                refine pm_R_lo pm_M264 (pc_q := 81) (ls_q := [.ref 41, .int a0, .int a1, .int a2, .long r37, pm_no, .int x6_492, .int x7_492, .int 0]) (st_q := []) rfl rfl rfl ?_
                refine pm_R_lo pm_M264 (pc_q := 83) rfl rfl rfl ?_
                refine pm_R_lo pm_M264 (pc_q := 85) rfl rfl rfl ?_
                refine pm_R_br pm_M264 (pc_q := 106) (st_q := [.int x6_492]) rfl rfl ?_
                refine pm_R_op pm_M264 (pc_q := 107) (st_q := [.int 0, .int x6_492]) rfl rfl rfl ?_
                refine sf_R_iany pm_M264 (pc_q := 108) (st := []) rfl rfl rfl (fun z505 => ?_)
                refine pm_R_lo pm_M264 (pc_q := 110) (ls_q := [.ref 41, .int a0, .int a1, .int a2, .long r37, pm_no, .int z505, .int x7_492, .int 0]) (st_q := []) (pm_q264_1 (Nat.le_of_ble_eq_true rfl)) rfl rfl ?_
                refine sf_R_iinc pm_M264 (pc_q := 113) (ls_q := fun z => [.ref 41, .int a0, .int a1, .int a2, .long r37, pm_no, .int z505, .int z, .int 0]) (pm_q264_1 (Nat.le_of_ble_eq_true rfl)) B498 rfl (by decide) (by decide) (by decide) (fun _ => rfl) rfl (fun z506 e507 B508 => ?_)
                show pm_R _ 264 113 [.ref 41, .int a0, .int a1, .int a2, .long r37, pm_no, .int z505, .int z506, .int 0] [] _ _
                refine pm_R_br pm_M264 (pc_q := 39) (pm_q264_1 (Nat.le_of_ble_eq_true rfl)) rfl ?_
                exact ih_492 _ (sf_up hN_492 e507 B498 (by decide) (by decide)) h_492 m_492 w_492 z505 z506 (.int 0) T_492 F_492 W_492 (sf_any z505) (sf_weak B508 (by decide) (by decide)) rfl rfl
              · skip
                refine pm_R_lo pm_M264 (pc_q := 56) rfl rfl rfl ?_
                refine pm_R_cs pm_M264 (pc_q := 59) (ra := [.long r37]) (rest := []) (ls_q := [.long r37, pm_no, pm_no, pm_no]) rfl rfl (Or.inl rfl) pm_M222 rfl rfl (Nat.le_of_ble_eq_true rfl) rfl rfl ?_
                refine rf_c222 (d := d + 5)  (fun r509 B510 => ?_)
                show pm_R _ 264 59 [.ref 41, .int a0, .int a1, .int a2, .long r37, pm_no, .int x6_492, .int x7_492, g8_492] [.int r509] _ _
                refine pm_R_op pm_M264 (pc_q := 60) (st_q := [.int 1, .int r509]) rfl rfl rfl ?_
                refine pm_R_icmp pm_M264 (t := 78) (pc_q := 63) rfl rfl rfl (fun c517 => ?_) (fun c517 => ?_)
                · skip
                  refine pm_R_op pm_M264 (pc_q := 79) (st_q := [.int 0]) rfl rfl rfl ?_
                  refine pm_R_lo pm_M264 (pc_q := 81) (ls_q := [.ref 41, .int a0, .int a1, .int a2, .long r37, pm_no, .int x6_492, .int x7_492, .int 0]) (st_q := []) rfl rfl rfl ?_
                  refine pm_R_lo pm_M264 (pc_q := 83) rfl rfl rfl ?_
                  refine pm_R_lo pm_M264 (pc_q := 85) rfl rfl rfl ?_
                  refine pm_R_br pm_M264 (pc_q := 106) (st_q := [.int x6_492]) rfl rfl ?_
                  refine pm_R_op pm_M264 (pc_q := 107) (st_q := [.int 0, .int x6_492]) rfl rfl rfl ?_
                  refine sf_R_iany pm_M264 (pc_q := 108) (st := []) rfl rfl rfl (fun z521 => ?_)
                  refine pm_R_lo pm_M264 (pc_q := 110) (ls_q := [.ref 41, .int a0, .int a1, .int a2, .long r37, pm_no, .int z521, .int x7_492, .int 0]) (st_q := []) (pm_q264_1 (Nat.le_of_ble_eq_true rfl)) rfl rfl ?_
                  refine sf_R_iinc pm_M264 (pc_q := 113) (ls_q := fun z => [.ref 41, .int a0, .int a1, .int a2, .long r37, pm_no, .int z521, .int z, .int 0]) (pm_q264_1 (Nat.le_of_ble_eq_true rfl)) B498 rfl (by decide) (by decide) (by decide) (fun _ => rfl) rfl (fun z522 e523 B524 => ?_)
                  show pm_R _ 264 113 [.ref 41, .int a0, .int a1, .int a2, .long r37, pm_no, .int z521, .int z522, .int 0] [] _ _
                  refine pm_R_br pm_M264 (pc_q := 39) (pm_q264_1 (Nat.le_of_ble_eq_true rfl)) rfl ?_
                  exact ih_492 _ (sf_up hN_492 e523 B498 (by decide) (by decide)) h_492 m_492 w_492 z521 z522 (.int 0) T_492 F_492 W_492 (sf_any z521) (sf_weak B524 (by decide) (by decide)) rfl rfl
                · have B525 : sf_B 1 1 r509 := sf_eqL (Classical.not_not.mp c517) sf_k1
                  refine pm_R_lo pm_M264 (pc_q := 64) rfl rfl rfl ?_
                  refine pm_R_lo pm_M264 (pc_q := 65) rfl rfl rfl ?_
                  refine pm_R_lo pm_M264 (pc_q := 67) rfl rfl rfl ?_
                  refine pm_R_lo pm_M264 (pc_q := 68) rfl rfl rfl ?_
                  refine pm_R_cv pm_M264 (pc_q := 71) (a := 41) (ra := [.int a2, .int x7_492, .int a1]) (rest := []) (ls_q := [.ref 41, .int a1, .int x7_492, .int a2, pm_no]) rfl rfl (Or.inl rfl) pm_M261 T_492.2.1 rfl (by decide) (Nat.lt_of_lt_of_le (by decide) T_492.1) rfl rfl (Nat.le_of_ble_eq_true rfl) rfl rfl ?_
                  refine rf_c261 (d := d + 3) T_492  (fun r526 m528 w529 h530 T531 F532 W533 B527 => ?_)
                  have F534 := F_492.trans F532 (by decide)
                  have W535 : rf_W [0, 23, 24, 26, 42, 43, 44, 47] m m528 := W495.trans W533 (by decide)
                  have W536 : rf_W [23, 24, 26, 42, 43, 44, 47] m39 m528 := W_492.trans W533 (by decide)
                  show pm_R _ 264 71 [.ref 41, .int a0, .int a1, .int a2, .long r37, pm_no, .int x6_492, .int x7_492, g8_492] [.int r526] _ _
                  refine pm_R_ifc pm_M264 (t := 78) (pc_q := 74) rfl rfl rfl (fun c537 => ?_) (fun c537 => ?_)
                  · have B538 : sf_B 0 0 r526 := sf_eqL c537 sf_k0
                    refine pm_R_op pm_M264 (pc_q := 79) (st_q := [.int 0]) rfl rfl rfl ?_
                    refine pm_R_lo pm_M264 (pc_q := 81) (ls_q := [.ref 41, .int a0, .int a1, .int a2, .long r37, pm_no, .int x6_492, .int x7_492, .int 0]) (st_q := []) rfl rfl rfl ?_
                    refine pm_R_lo pm_M264 (pc_q := 83) rfl rfl rfl ?_
                    refine pm_R_lo pm_M264 (pc_q := 85) rfl rfl rfl ?_
                    refine pm_R_br pm_M264 (pc_q := 106) (st_q := [.int x6_492]) rfl rfl ?_
                    refine pm_R_op pm_M264 (pc_q := 107) (st_q := [.int 0, .int x6_492]) rfl rfl rfl ?_
                    refine sf_R_iany pm_M264 (pc_q := 108) (st := []) rfl rfl rfl (fun z542 => ?_)
                    refine pm_R_lo pm_M264 (pc_q := 110) (ls_q := [.ref 41, .int a0, .int a1, .int a2, .long r37, pm_no, .int z542, .int x7_492, .int 0]) (st_q := []) (pm_q264_1 (Nat.le_of_ble_eq_true rfl)) rfl rfl ?_
                    refine sf_R_iinc pm_M264 (pc_q := 113) (ls_q := fun z => [.ref 41, .int a0, .int a1, .int a2, .long r37, pm_no, .int z542, .int z, .int 0]) (pm_q264_1 (Nat.le_of_ble_eq_true rfl)) B498 rfl (by decide) (by decide) (by decide) (fun _ => rfl) rfl (fun z543 e544 B545 => ?_)
                    show pm_R _ 264 113 [.ref 41, .int a0, .int a1, .int a2, .long r37, pm_no, .int z542, .int z543, .int 0] [] _ _
                    refine pm_R_br pm_M264 (pc_q := 39) (pm_q264_1 (Nat.le_of_ble_eq_true rfl)) rfl ?_
                    exact ih_492 _ (sf_up hN_492 e544 B498 (by decide) (by decide)) h530 m528 w529 z542 z543 (.int 0) T531 F534 W536 (sf_any z542) (sf_weak B545 (by decide) (by decide)) rfl rfl
                  · have B546 : sf_B 1 1 r526 := sf_neL0 c537 sf_k0 B527
                    refine pm_R_op pm_M264 (pc_q := 75) (st_q := [.int 1]) rfl rfl rfl ?_
                    refine pm_R_br pm_M264 (pc_q := 79) rfl rfl ?_
                    refine pm_R_lo pm_M264 (pc_q := 81) (ls_q := [.ref 41, .int a0, .int a1, .int a2, .long r37, pm_no, .int x6_492, .int x7_492, .int 1]) (st_q := []) rfl rfl rfl ?_
                    refine pm_R_lo pm_M264 (pc_q := 83) rfl rfl rfl ?_
                    refine pm_R_lo pm_M264 (pc_q := 85) rfl rfl rfl ?_
                    refine pm_R_br pm_M264 (pc_q := 88) (st_q := [.int x6_492]) rfl rfl ?_
                    refine pm_R_lo pm_M264 (pc_q := 89) rfl rfl rfl ?_
                    refine pm_R_lo pm_M264 (pc_q := 90) rfl rfl rfl ?_
                    refine pm_R_cv pm_M264 (pc_q := 93) (a := 41) (ra := [.int a0]) (rest := [.int x6_492]) (ls_q := [.ref 41, .int a0, pm_no]) rfl rfl (Or.inl rfl) pm_M263 T531.2.1 rfl (by decide) (Nat.lt_of_lt_of_le (by decide) T531.1) rfl rfl (Nat.le_of_ble_eq_true rfl) rfl rfl ?_
                    refine rf_c263 (d := d + 0) T531 B23 (fun r547 m549 w550 h551 T552 F553 W554 => ?_)
                    have F555 := F534.trans F553 (by decide)
                    have W556 : rf_W [0, 23, 24, 26, 42, 43, 44, 47] m m549 := W535.trans W554 (by decide)
                    have W557 : rf_W [23, 24, 26, 42, 43, 44, 47] m39 m549 := W536.trans W554 (by decide)
                    show pm_R _ 264 93 [.ref 41, .int a0, .int a1, .int a2, .long r37, pm_no, .int x6_492, .int x7_492, .int 1] [.long r547, .int x6_492] _ _
                    refine pm_R_lo pm_M264 (pc_q := 95) rfl rfl rfl ?_
                    refine sf_R_lcmp pm_M264 (pc_q := 96) rfl rfl (fun z558 e559 => ?_)
                    refine pm_R_ifc pm_M264 (t := 106) (pc_q := 99) rfl rfl rfl (fun c560 => ?_) (fun c560 => ?_)
                    · have k561 := sf_lneC e559 c560
                      refine pm_R_op pm_M264 (pc_q := 107) (st_q := [.int 0, .int x6_492]) rfl rfl rfl ?_
                      refine sf_R_iany pm_M264 (pc_q := 108) (st := []) rfl rfl rfl (fun z565 => ?_)
                      refine pm_R_lo pm_M264 (pc_q := 110) (ls_q := [.ref 41, .int a0, .int a1, .int a2, .long r37, pm_no, .int z565, .int x7_492, .int 1]) (st_q := []) (pm_q264_1 (Nat.le_of_ble_eq_true rfl)) rfl rfl ?_
                      refine sf_R_iinc pm_M264 (pc_q := 113) (ls_q := fun z => [.ref 41, .int a0, .int a1, .int a2, .long r37, pm_no, .int z565, .int z, .int 1]) (pm_q264_1 (Nat.le_of_ble_eq_true rfl)) B498 rfl (by decide) (by decide) (by decide) (fun _ => rfl) rfl (fun z566 e567 B568 => ?_)
                      show pm_R _ 264 113 [.ref 41, .int a0, .int a1, .int a2, .long r37, pm_no, .int z565, .int z566, .int 1] [] _ _
                      refine pm_R_br pm_M264 (pc_q := 39) (pm_q264_1 (Nat.le_of_ble_eq_true rfl)) rfl ?_
                      exact ih_492 _ (sf_up hN_492 e567 B498 (by decide) (by decide)) h551 m549 w550 z565 z566 (.int 1) T552 F555 W557 (sf_any z565) (sf_weak B568 (by decide) (by decide)) rfl rfl
                    · have B569 : sf_B 0 0 z558 := sf_eqL (Classical.not_not.mp c560) sf_k0
                      have k570 := lf_ge e559 B569 (by decide)
                      refine pm_R_op pm_M264 (pc_q := 100) (st_q := [.int 1, .int x6_492]) rfl rfl rfl ?_
                      refine pm_R_lo pm_M264 (pc_q := 102) rfl rfl rfl ?_
                      refine sf_R_iany pm_M264 (pc_q := 103) (st := [.int x6_492]) rfl rfl rfl (fun z574 => ?_)
                      refine pm_R_br pm_M264 (pc_q := 107) rfl rfl ?_
                      refine sf_R_iany pm_M264 (pc_q := 108) (st := []) rfl rfl rfl (fun z578 => ?_)
                      refine pm_R_lo pm_M264 (pc_q := 110) (ls_q := [.ref 41, .int a0, .int a1, .int a2, .long r37, pm_no, .int z578, .int x7_492, .int 1]) (st_q := []) (pm_q264_1 (Nat.le_of_ble_eq_true rfl)) rfl rfl ?_
                      refine sf_R_iinc pm_M264 (pc_q := 113) (ls_q := fun z => [.ref 41, .int a0, .int a1, .int a2, .long r37, pm_no, .int z578, .int z, .int 1]) (pm_q264_1 (Nat.le_of_ble_eq_true rfl)) B498 rfl (by decide) (by decide) (by decide) (fun _ => rfl) rfl (fun z579 e580 B581 => ?_)
                      show pm_R _ 264 113 [.ref 41, .int a0, .int a1, .int a2, .long r37, pm_no, .int z578, .int z579, .int 1] [] _ _
                      refine pm_R_br pm_M264 (pc_q := 39) (pm_q264_1 (Nat.le_of_ble_eq_true rfl)) rfl ?_
                      exact ih_492 _ (sf_up hN_492 e580 B498 (by decide) (by decide)) h551 m549 w550 z578 z579 (.int 1) T552 F555 W557 (sf_any z578) (sf_weak B581 (by decide) (by decide)) rfl rfl
        exact L_492 _ h41 m39 w40 0 0 (pm_no) T42 F45 (rf_W.refl _ _) (sf_weak sf_k0 (by decide) (by decide)) (sf_weak sf_k0 (by decide) (by decide)) rfl rfl
      · have B582 : sf_B 0 0 r25 := sf_eqL (Classical.not_not.mp c35) sf_k0
        refine pm_R_op pm_M264 (pc_q := 25) (st_q := [.int (-1)]) rfl rfl rfl ?_
        exact pm_R_ret pm_M264 (r := some (.int (-1))) rfl rfl (K (-1) m27 w28 h29 T30 F33 W34)

set_option maxRecDepth 100000 in
set_option maxHeartbeats 4000000 in
/-- SilentTableModel.idle -/
theorem rf_c251 {d : Nat} {m : Nat → Int32} {w : Int64} {h : pm_H} {Q : Option Value → pm_H → Prop} {a0 : Int32} {a1 : Int32} (T : rf_T m w h)  (K : ∀ (r : Int32) (m_q : Nat → Int32) (w_q : Int64) (h_q : pm_H), rf_T m_q w_q h_q → rf_G [41, 53, 54] h h_q → rf_W [0, 23, 24, 26] m m_q → Q (some (.int r)) h_q) : pm_R (d + 6) 251 0 [.ref 41, .int a0, .int a1, pm_no, pm_no, pm_no, pm_no, pm_no, pm_no] [] h Q := by
  refine pm_R_lo pm_M251 (pc_q := 1) rfl rfl rfl ?_
  refine pm_R_op pm_M251 (pc_q := 2) (st_q := [.int 0, .ref 41]) rfl rfl rfl ?_
  refine rf_R_put pm_M251 T (pc_q := 5) rfl rfl rfl (by decide) rfl rfl sf_k0 rfl rfl (fun h1 m4 em5 T2 F3 => ?_)
  have F6 := (rf_G.refl [41, 53, 54] h).trans F3 (by decide)
  have B7 : sf_B 0 0 (m4 0) := by rw [em5]; exact sf_k0
  have W9 : rf_W [0, 23, 24, 26] m m4 := by rw [em5]; exact (rf_W.refl [0, 23, 24, 26] m).put (by decide)
  refine pm_R_lo pm_M251 (pc_q := 6) rfl rfl rfl ?_
  refine pm_R_lo pm_M251 (pc_q := 7) rfl rfl rfl ?_
  refine pm_R_lo pm_M251 (pc_q := 8) rfl rfl rfl ?_
  refine pm_R_cv pm_M251 (pc_q := 11) (a := 41) (ra := [.int a1, .int a0]) (rest := []) (ls_q := [.ref 41, .int a0, .int a1]) rfl rfl (Or.inl rfl) pm_M200 T2.2.1 rfl (by decide) (Nat.lt_of_lt_of_le (by decide) T2.1) rfl rfl (Nat.le_of_ble_eq_true rfl) rfl rfl ?_
  refine pm_R_lo pm_M200 (pc_q := 1) rfl rfl rfl ?_
  refine pm_R_op pm_M200 (pc_q := 2) (st_q := [.int 0, .ref 41]) rfl rfl rfl ?_
  refine pm_R_lo pm_M200 (pc_q := 3) rfl rfl rfl ?_
  refine pm_R_cv pm_M200 (pc_q := 6) (a := 41) (ra := [.int a0, .int 0]) (rest := []) (ls_q := [.ref 41, .int 0, .int a0]) rfl rfl (Or.inl rfl) pm_M177 T2.2.1 rfl (by decide) (Nat.lt_of_lt_of_le (by decide) T2.1) rfl rfl (Nat.le_of_ble_eq_true rfl) rfl rfl ?_
  refine pm_R_lo pm_M177 (pc_q := 1) rfl rfl rfl ?_
  refine pm_R_op pm_M177 (pc_q := 2) (st_q := [.int 0, .int a0]) rfl rfl rfl ?_
  refine pm_R_lo pm_M177 (pc_q := 3) rfl rfl rfl ?_
  refine rf_R_get pm_M177 T2 (pc_q := 6) (v := .ref 46) rfl rfl rfl rfl ?_
  refine pm_R_lo pm_M177 (pc_q := 7) rfl rfl rfl ?_
  obtain ⟨f10, e11, b12⟩ := T2.2.2.2.1 46 (by decide) (by decide)
  refine rf_R_ild pm_M177 T2 (pc_q := 8) rfl e11 (by decide) rfl rfl (fun z13 ez14 => ?_)
  have B15 : sf_B 0 2 z13 := ez14 ▸ (b12 0)
  refine pm_R_op pm_M177 (pc_q := 9) (st_q := [.int 1, .int z13, .int 0, .int a0]) rfl rfl rfl ?_
  refine sf_R_isub pm_M177 (pc_q := 10) rfl rfl B15 sf_k1 (by decide) (by decide) (fun z16 e17 B18 => ?_)
  refine pm_R_cs pm_M177 (pc_q := 13) (ra := [.int z16, .int 0, .int a0]) (rest := []) (ls_q := [.int a0, .int 0, .int z16]) rfl rfl (Or.inl rfl) pm_M174 rfl rfl (Nat.le_of_ble_eq_true rfl) rfl rfl ?_
  refine pm_R_lo pm_M174 (pc_q := 1) rfl rfl rfl ?_
  refine pm_R_lo pm_M174 (pc_q := 2) rfl rfl rfl ?_
  refine pm_R_icmp pm_M174 (t := 14) (pc_q := 5) rfl rfl rfl (fun c19 => ?_) (fun c19 => ?_)
  · have B20 : sf_B (-2147483648) (-1) a0 := sf_ltL c19 (sf_any a0) sf_k0
    refine pm_R_op pm_M174 (pc_q := 15) (st_q := [.int 0]) rfl rfl rfl ?_
    refine pm_R_ret pm_M174 (r := some (.int 0)) rfl rfl ?_
    show pm_R _ 177 13 [.ref 41, .int 0, .int a0] [.int 0] _ _
    refine pm_R_ret pm_M177 (r := some (.int 0)) rfl rfl ?_
    show pm_R _ 200 6 [.ref 41, .int a0, .int a1] [.int 0] _ _
    refine pm_R_br pm_M200 (pc_q := 18) (st_q := []) rfl rfl ?_
    refine pm_R_op pm_M200 (pc_q := 19) (st_q := [.int 0]) rfl rfl rfl ?_
    refine pm_R_ret pm_M200 (r := some (.int 0)) rfl rfl ?_
    show pm_R _ 251 11 [.ref 41, .int a0, .int a1, pm_no, pm_no, pm_no, pm_no, pm_no, pm_no] [.int 0] _ _
    refine pm_R_br pm_M251 (pc_q := 14) (st_q := []) rfl rfl ?_
    refine pm_R_op pm_M251 (pc_q := 15) (st_q := [.int (-1)]) rfl rfl rfl ?_
    exact pm_R_ret pm_M251 (r := some (.int (-1))) rfl rfl (K (-1) m4 w h1 T2 F6 W9)
  · have B21 : sf_B 0 2147483647 a0 := sf_leR (Int32.not_lt.mp c19) sf_k0 (sf_any a0)
    refine pm_R_lo pm_M174 (pc_q := 6) rfl rfl rfl ?_
    refine pm_R_lo pm_M174 (pc_q := 7) rfl rfl rfl ?_
    refine pm_R_icmp pm_M174 (t := 14) (pc_q := 10) rfl rfl rfl (fun c22 => ?_) (fun c22 => ?_)
    · skip
      refine pm_R_op pm_M174 (pc_q := 15) (st_q := [.int 0]) rfl rfl rfl ?_
      refine pm_R_ret pm_M174 (r := some (.int 0)) rfl rfl ?_
      show pm_R _ 177 13 [.ref 41, .int 0, .int a0] [.int 0] _ _
      refine pm_R_ret pm_M177 (r := some (.int 0)) rfl rfl ?_
      show pm_R _ 200 6 [.ref 41, .int a0, .int a1] [.int 0] _ _
      refine pm_R_br pm_M200 (pc_q := 18) (st_q := []) rfl rfl ?_
      refine pm_R_op pm_M200 (pc_q := 19) (st_q := [.int 0]) rfl rfl rfl ?_
      refine pm_R_ret pm_M200 (r := some (.int 0)) rfl rfl ?_
      show pm_R _ 251 11 [.ref 41, .int a0, .int a1, pm_no, pm_no, pm_no, pm_no, pm_no, pm_no] [.int 0] _ _
      refine pm_R_br pm_M251 (pc_q := 14) (st_q := []) rfl rfl ?_
      refine pm_R_op pm_M251 (pc_q := 15) (st_q := [.int (-1)]) rfl rfl rfl ?_
      exact pm_R_ret pm_M251 (r := some (.int (-1))) rfl rfl (K (-1) m4 w h1 T2 F6 W9)
    · have B23 : sf_B 0 1 a0 := sf_leL (Int32.not_lt.mp c22) B21 B18
      have B24 : sf_B 0 1 z16 := sf_leR (Int32.not_lt.mp c22) B21 B18
      refine pm_R_op pm_M174 (pc_q := 11) (st_q := [.int 1]) rfl rfl rfl ?_
      refine pm_R_br pm_M174 (pc_q := 15) rfl rfl ?_
      refine pm_R_ret pm_M174 (r := some (.int 1)) rfl rfl ?_
      show pm_R _ 177 13 [.ref 41, .int 0, .int a0] [.int 1] _ _
      refine pm_R_ret pm_M177 (r := some (.int 1)) rfl rfl ?_
      show pm_R _ 200 6 [.ref 41, .int a0, .int a1] [.int 1] _ _
      refine pm_R_br pm_M200 (pc_q := 9) (st_q := []) rfl rfl ?_
      refine pm_R_lo pm_M200 (pc_q := 10) rfl rfl rfl ?_
      refine pm_R_op pm_M200 (pc_q := 11) (st_q := [.int 1, .ref 41]) rfl rfl rfl ?_
      refine pm_R_lo pm_M200 (pc_q := 12) rfl rfl rfl ?_
      refine pm_R_cv pm_M200 (pc_q := 15) (a := 41) (ra := [.int a1, .int 1]) (rest := []) (ls_q := [.ref 41, .int 1, .int a1]) rfl rfl (Or.inl rfl) pm_M177 T2.2.1 rfl (by decide) (Nat.lt_of_lt_of_le (by decide) T2.1) rfl rfl (Nat.le_of_ble_eq_true rfl) rfl rfl ?_
      refine pm_R_lo pm_M177 (pc_q := 1) rfl rfl rfl ?_
      refine pm_R_op pm_M177 (pc_q := 2) (st_q := [.int 0, .int a1]) rfl rfl rfl ?_
      refine pm_R_lo pm_M177 (pc_q := 3) rfl rfl rfl ?_
      refine rf_R_get pm_M177 T2 (pc_q := 6) (v := .ref 46) rfl rfl rfl rfl ?_
      refine pm_R_lo pm_M177 (pc_q := 7) rfl rfl rfl ?_
      refine rf_R_ild pm_M177 T2 (pc_q := 8) rfl e11 (by decide) rfl rfl (fun z25 ez26 => ?_)
      have B27 : sf_B 0 3 z25 := ez26 ▸ (b12 1)
      refine pm_R_op pm_M177 (pc_q := 9) (st_q := [.int 1, .int z25, .int 0, .int a1]) rfl rfl rfl ?_
      refine sf_R_isub pm_M177 (pc_q := 10) rfl rfl B27 sf_k1 (by decide) (by decide) (fun z28 e29 B30 => ?_)
      refine pm_R_cs pm_M177 (pc_q := 13) (ra := [.int z28, .int 0, .int a1]) (rest := []) (ls_q := [.int a1, .int 0, .int z28]) rfl rfl (Or.inl rfl) pm_M174 rfl rfl (Nat.le_of_ble_eq_true rfl) rfl rfl ?_
      refine pm_R_lo pm_M174 (pc_q := 1) rfl rfl rfl ?_
      refine pm_R_lo pm_M174 (pc_q := 2) rfl rfl rfl ?_
      refine pm_R_icmp pm_M174 (t := 14) (pc_q := 5) rfl rfl rfl (fun c31 => ?_) (fun c31 => ?_)
      · have B32 : sf_B (-2147483648) (-1) a1 := sf_ltL c31 (sf_any a1) sf_k0
        refine pm_R_op pm_M174 (pc_q := 15) (st_q := [.int 0]) rfl rfl rfl ?_
        refine pm_R_ret pm_M174 (r := some (.int 0)) rfl rfl ?_
        show pm_R _ 177 13 [.ref 41, .int 1, .int a1] [.int 0] _ _
        refine pm_R_ret pm_M177 (r := some (.int 0)) rfl rfl ?_
        show pm_R _ 200 15 [.ref 41, .int a0, .int a1] [.int 0] _ _
        refine pm_R_br pm_M200 (pc_q := 18) (st_q := []) rfl rfl ?_
        refine pm_R_op pm_M200 (pc_q := 19) (st_q := [.int 0]) rfl rfl rfl ?_
        refine pm_R_ret pm_M200 (r := some (.int 0)) rfl rfl ?_
        show pm_R _ 251 11 [.ref 41, .int a0, .int a1, pm_no, pm_no, pm_no, pm_no, pm_no, pm_no] [.int 0] _ _
        refine pm_R_br pm_M251 (pc_q := 14) (st_q := []) rfl rfl ?_
        refine pm_R_op pm_M251 (pc_q := 15) (st_q := [.int (-1)]) rfl rfl rfl ?_
        exact pm_R_ret pm_M251 (r := some (.int (-1))) rfl rfl (K (-1) m4 w h1 T2 F6 W9)
      · have B33 : sf_B 0 2147483647 a1 := sf_leR (Int32.not_lt.mp c31) sf_k0 (sf_any a1)
        refine pm_R_lo pm_M174 (pc_q := 6) rfl rfl rfl ?_
        refine pm_R_lo pm_M174 (pc_q := 7) rfl rfl rfl ?_
        refine pm_R_icmp pm_M174 (t := 14) (pc_q := 10) rfl rfl rfl (fun c34 => ?_) (fun c34 => ?_)
        · skip
          refine pm_R_op pm_M174 (pc_q := 15) (st_q := [.int 0]) rfl rfl rfl ?_
          refine pm_R_ret pm_M174 (r := some (.int 0)) rfl rfl ?_
          show pm_R _ 177 13 [.ref 41, .int 1, .int a1] [.int 0] _ _
          refine pm_R_ret pm_M177 (r := some (.int 0)) rfl rfl ?_
          show pm_R _ 200 15 [.ref 41, .int a0, .int a1] [.int 0] _ _
          refine pm_R_br pm_M200 (pc_q := 18) (st_q := []) rfl rfl ?_
          refine pm_R_op pm_M200 (pc_q := 19) (st_q := [.int 0]) rfl rfl rfl ?_
          refine pm_R_ret pm_M200 (r := some (.int 0)) rfl rfl ?_
          show pm_R _ 251 11 [.ref 41, .int a0, .int a1, pm_no, pm_no, pm_no, pm_no, pm_no, pm_no] [.int 0] _ _
          refine pm_R_br pm_M251 (pc_q := 14) (st_q := []) rfl rfl ?_
          refine pm_R_op pm_M251 (pc_q := 15) (st_q := [.int (-1)]) rfl rfl rfl ?_
          exact pm_R_ret pm_M251 (r := some (.int (-1))) rfl rfl (K (-1) m4 w h1 T2 F6 W9)
        · have V35 := rf_V.mk e11 ez26 e29 (Int32.not_lt.mp c34) B33 (by decide)
          have V35 := V35.back F6 (by decide)
          have B36 : sf_B 0 2 a1 := sf_leL (Int32.not_lt.mp c34) B33 B30
          have B37 : sf_B 0 2 z28 := sf_leR (Int32.not_lt.mp c34) B33 B30
          refine pm_R_op pm_M174 (pc_q := 11) (st_q := [.int 1]) rfl rfl rfl ?_
          refine pm_R_br pm_M174 (pc_q := 15) rfl rfl ?_
          refine pm_R_ret pm_M174 (r := some (.int 1)) rfl rfl ?_
          show pm_R _ 177 13 [.ref 41, .int 1, .int a1] [.int 1] _ _
          refine pm_R_ret pm_M177 (r := some (.int 1)) rfl rfl ?_
          show pm_R _ 200 15 [.ref 41, .int a0, .int a1] [.int 1] _ _
          refine pm_R_br pm_M200 (pc_q := 20) (st_q := []) rfl rfl ?_
          refine pm_R_lo pm_M200 (pc_q := 21) rfl rfl rfl ?_
          refine pm_R_lo pm_M200 (pc_q := 22) rfl rfl rfl ?_
          refine pm_R_lo pm_M200 (pc_q := 23) rfl rfl rfl ?_
          refine pm_R_cv pm_M200 (pc_q := 26) (a := 41) (ra := [.int a1, .int a0]) (rest := []) (ls_q := [.ref 41, .int a0, .int a1, pm_no]) rfl rfl (Or.inl rfl) pm_M201 T2.2.1 rfl (by decide) (Nat.lt_of_lt_of_le (by decide) T2.1) rfl rfl (Nat.le_of_ble_eq_true rfl) rfl rfl ?_
          refine rf_c201 (d := d + 4) T2 B23 B36 (V35.F F6 (by decide)) (fun m40 w41 h42 T43 F44 W45 X46 B47 => ?_)
          have F48 := F6.trans F44 (by decide)
          have W49 : rf_W [0, 23, 24, 26] m m40 := W9.trans W45 (by decide)
          show pm_R _ 200 26 [.ref 41, .int a0, .int a1] [] _ _
          refine pm_R_op pm_M200 (pc_q := 27) (st_q := [.int 1]) rfl rfl rfl ?_
          refine pm_R_ret pm_M200 (r := some (.int 1)) rfl rfl ?_
          show pm_R _ 251 11 [.ref 41, .int a0, .int a1, pm_no, pm_no, pm_no, pm_no, pm_no, pm_no] [.int 1] _ _
          refine pm_R_br pm_M251 (pc_q := 16) (st_q := []) rfl rfl ?_
          refine pm_R_lo pm_M251 (pc_q := 17) rfl rfl rfl ?_
          refine rf_R_get pm_M251 T43 (pc_q := 20) (v := .int (m40 24)) rfl rfl rfl rfl ?_
          refine pm_R_lo pm_M251 (pc_q := 21) (ls_q := [.ref 41, .int a0, .int a1, .int (m40 24), pm_no, pm_no, pm_no, pm_no, pm_no]) (st_q := []) rfl rfl rfl ?_
          refine pm_R_lo pm_M251 (pc_q := 22) rfl rfl rfl ?_
          refine pm_R_cv pm_M251 (pc_q := 25) (a := 41) (ra := []) (rest := []) (ls_q := [.ref 41]) rfl rfl (Or.inl rfl) pm_M215 T43.2.1 rfl (by decide) (Nat.lt_of_lt_of_le (by decide) T43.1) rfl rfl (Nat.le_of_ble_eq_true rfl) rfl rfl ?_
          refine rf_c215 (d := d + 0) T43 B47 (fun r50 m52 w53 h54 T55 F56 W57 => ?_)
          have F58 := F48.trans F56 (by decide)
          have B59 : sf_B 1 12 (m52 24) := by rw [W57 24 (by decide)]; exact B47
          have W60 : rf_W [0, 23, 24, 26] m m52 := W49.trans W57 (by decide)
          show pm_R _ 251 25 [.ref 41, .int a0, .int a1, .int (m40 24), pm_no, pm_no, pm_no, pm_no, pm_no] [.long r50] _ _
          refine pm_R_lo pm_M251 (pc_q := 27) (ls_q := [.ref 41, .int a0, .int a1, .int (m40 24), .long r50, pm_no, pm_no, pm_no, pm_no]) (st_q := []) rfl rfl rfl ?_
          refine pm_R_op pm_M251 (pc_q := 28) (st_q := [.int 0]) rfl rfl rfl ?_
          refine pm_R_lo pm_M251 (pc_q := 30) (ls_q := [.ref 41, .int a0, .int a1, .int (m40 24), .long r50, pm_no, .int 0, pm_no, pm_no]) (st_q := []) rfl rfl rfl ?_
          refine pm_R_op pm_M251 (pc_q := 31) (st_q := [.int 0]) rfl rfl rfl ?_
          refine pm_R_lo pm_M251 (pc_q := 33) (ls_q := [.ref 41, .int a0, .int a1, .int (m40 24), .long r50, pm_no, .int 0, .int 0, pm_no]) (st_q := []) rfl rfl rfl ?_
          have L_1519 : ∀ (N : Nat) (h_1519 : pm_H) (m_1519 : Nat → Int32) (w_1519 : Int64) (x6_1519 : Int32) (x7_1519 : Int32) (g8_1519 : Value), rf_T m_1519 w_1519 h_1519 → rf_G [41, 53, 54] h h_1519 → rf_W [23, 24, 26] m52 m_1519 → sf_B (-2147483648) 2147483647 x6_1519 → sf_B 0 12 x7_1519 → g8_1519.category = 1 → (12 - x7_1519.toInt).toNat = N → pm_R (d + 6) 251 33 [.ref 41, .int a0, .int a1, .int (m40 24), .long r50, pm_no, .int x6_1519, .int x7_1519, g8_1519] [] h_1519 Q := by
            intro N
            induction N using Nat.strongRecOn with
            | ind N ih_1519 =>
              intro h_1519 m_1519 w_1519 x6_1519 x7_1519 g8_1519 T_1519 F_1519 W_1519 Bx6_1519 Bx7_1519 Cg8_1519 hN_1519
              have W1522 : rf_W [0, 23, 24, 26] m m_1519 := W60.trans W_1519 (by decide)
              refine pm_R_lo pm_M251 (pc_q := 35) rfl rfl rfl ?_
              refine pm_R_lo pm_M251 (pc_q := 36) rfl rfl rfl ?_
              refine pm_R_icmp pm_M251 (t := 124) (pc_q := 39) rfl rfl rfl (fun c1523 => ?_) (fun c1523 => ?_)
              · have B1524 : sf_B 1 12 x7_1519 := sf_leR c1523 B47 Bx7_1519
                refine pm_R_lo pm_M251 (pc_q := 126) (pm_q251_1 (Nat.le_of_ble_eq_true rfl)) rfl rfl ?_
                exact pm_R_ret pm_M251 (r := some (.int x6_1519)) (pm_q251_1 (Nat.le_of_ble_eq_true rfl)) (pm_ret_i _) (K x6_1519 m_1519 w_1519 h_1519 T_1519 F_1519 W1522)
              · have B1525 : sf_B 0 11 x7_1519 := sf_ltL (Int32.not_le.mp c1523) Bx7_1519 B47
                refine pm_R_lo pm_M251 (pc_q := 40) rfl rfl rfl ?_
                refine pm_R_op pm_M251 (pc_q := 41) (st_q := [.int 1, .int (m40 24)]) rfl rfl rfl ?_
                refine pm_R_icmp pm_M251 (t := 124) (pc_q := 44) rfl rfl rfl (fun c1526 => ?_) (fun c1526 => ?_)
                · have B1527 : sf_B 1 1 (m40 24) := sf_leL c1526 B47 sf_k1
                  refine pm_R_lo pm_M251 (pc_q := 126) (pm_q251_1 (Nat.le_of_ble_eq_true rfl)) rfl rfl ?_
                  exact pm_R_ret pm_M251 (r := some (.int x6_1519)) (pm_q251_1 (Nat.le_of_ble_eq_true rfl)) (pm_ret_i _) (K x6_1519 m_1519 w_1519 h_1519 T_1519 F_1519 W1522)
                · have B1528 : sf_B 2 12 (m40 24) := sf_ltR (Int32.not_le.mp c1526) sf_k1 B47
                  refine pm_R_lo pm_M251 (pc_q := 45) rfl rfl rfl ?_
                  refine pm_R_lo pm_M251 (pc_q := 46) rfl rfl rfl ?_
                  refine pm_R_lo pm_M251 (pc_q := 47) rfl rfl rfl ?_
                  refine pm_R_cv pm_M251 (pc_q := 50) (a := 41) (ra := [.int a1, .int a0]) (rest := []) (ls_q := [.ref 41, .int a0, .int a1, pm_no]) rfl rfl (Or.inl rfl) pm_M201 T_1519.2.1 rfl (by decide) (Nat.lt_of_lt_of_le (by decide) T_1519.1) rfl rfl (Nat.le_of_ble_eq_true rfl) rfl rfl ?_
                  refine rf_c201 (d := d + 5) T_1519 B23 B36 (V35.F F_1519 (by decide)) (fun m1531 w1532 h1533 T1534 F1535 W1536 X1537 B1538 => ?_)
                  have F1539 := F_1519.trans F1535 (by decide)
                  have W1540 : rf_W [0, 23, 24, 26] m m1531 := W1522.trans W1536 (by decide)
                  have W1541 : rf_W [23, 24, 26] m52 m1531 := W_1519.trans W1536 (by decide)
                  show pm_R _ 251 50 [.ref 41, .int a0, .int a1, .int (m40 24), .long r50, pm_no, .int x6_1519, .int x7_1519, g8_1519] [] _ _
                  have q1542 : (m1531 24).toInt = (m40 24).toInt := rf_layEq T F6 F_1519 (by decide) X46 X1537
                  have B1543 : sf_B 2 12 (m1531 24) := sf_eqT q1542 B1528
                  refine pm_R_lo pm_M251 (pc_q := 51) rfl rfl rfl ?_
                  refine pm_R_op pm_M251 (pc_q := 52) (st_q := [.ref 41, .ref 41]) rfl rfl rfl ?_
                  refine rf_R_get pm_M251 T1534 (pc_q := 55) (v := .int (m1531 24)) rfl rfl rfl rfl ?_
                  refine pm_R_op pm_M251 (pc_q := 56) (st_q := [.int 1, .int (m1531 24), .ref 41]) rfl rfl rfl ?_
                  refine sf_R_isub pm_M251 (pc_q := 57) rfl rfl B1543 sf_k1 (by decide) (by decide) (fun z1544 e1545 B1546 => ?_)
                  refine rf_R_put pm_M251 T1534 (pc_q := 60) rfl rfl rfl (by decide) rfl rfl (sf_weak B1546 (by decide) (by decide)) rfl rfl (fun h1547 m1550 em1551 T1548 F1549 => ?_)
                  have F1552 := F1539.trans F1549 (by decide)
                  have B1553 : sf_B 1 11 (m1550 24) := by rw [em1551]; exact B1546
                  have ek1554 : (m1550 24).toInt = (z1544).toInt := by rw [em1551]; rfl
                  have W1555 : rf_W [0, 23, 24, 26] m m1550 := by rw [em1551]; exact W1540.put (by decide)
                  have W1556 : rf_W [23, 24, 26] m52 m1550 := by rw [em1551]; exact W1541.put (by decide)
                  refine pm_R_lo pm_M251 (pc_q := 62) rfl rfl rfl ?_
                  refine pm_R_lo pm_M251 (pc_q := 64) (ls_q := [.ref 41, .int a0, .int a1, .int (m40 24), .long r50, pm_no, .int x6_1519, .int x7_1519, .int x7_1519]) (st_q := []) rfl rfl rfl ?_
                  have L_1675 : ∀ (N : Nat) (h_1675 : pm_H) (m_1675 : Nat → Int32) (w_1675 : Int64) (x8_1675 : Int32), rf_T m_1675 w_1675 h_1675 → rf_G [41, 53, 54] h h_1675 → rf_W [] m1550 m_1675 → sf_B 0 11 x8_1675 → (11 - x8_1675.toInt).toNat = N → pm_R (d + 6) 251 64 [.ref 41, .int a0, .int a1, .int (m40 24), .long r50, pm_no, .int x6_1519, .int x7_1519, .int x8_1675] [] h_1675 Q := by
                    intro N
                    induction N using Nat.strongRecOn with
                    | ind N ih_1675 =>
                      intro h_1675 m_1675 w_1675 x8_1675 T_1675 F_1675 W_1675 Bx8_1675 hN_1675
                      have B1678 : sf_B 1 11 (m_1675 24) := by rw [W_1675 24 (by decide)]; exact B1553
                      have ek1679 : (m_1675 24).toInt = (z1544).toInt := by rw [W_1675 24 (by decide)]; exact ek1554
                      have W1680 : rf_W [0, 23, 24, 26] m m_1675 := W1555.trans W_1675 (by decide)
                      have W1681 : rf_W [23, 24, 26] m52 m_1675 := W1556.trans W_1675 (by decide)
                      refine pm_R_lo pm_M251 (pc_q := 66) rfl rfl rfl ?_
                      refine pm_R_lo pm_M251 (pc_q := 67) rfl rfl rfl ?_
                      refine rf_R_get pm_M251 T_1675 (pc_q := 70) (v := .int (m_1675 24)) rfl rfl rfl rfl ?_
                      refine pm_R_icmp pm_M251 (t := 95) (pc_q := 73) rfl rfl rfl (fun c1682 => ?_) (fun c1682 => ?_)
                      · have B1683 : sf_B 1 11 x8_1675 := sf_leR c1682 B1678 Bx8_1675
                        refine pm_R_lo pm_M251 (pc_q := 97) rfl rfl rfl ?_
                        refine pm_R_lo pm_M251 (pc_q := 98) rfl rfl rfl ?_
                        refine pm_R_cv pm_M251 (pc_q := 101) (a := 41) (ra := []) (rest := [.int x6_1519]) (ls_q := [.ref 41]) rfl rfl (Or.inl rfl) pm_M215 T_1675.2.1 rfl (by decide) (Nat.lt_of_lt_of_le (by decide) T_1675.1) rfl rfl (Nat.le_of_ble_eq_true rfl) rfl rfl ?_
                        refine rf_c215 (d := d + 0) T_1675 (sf_weak B1678 (by decide) (by decide)) (fun r1684 m1686 w1687 h1688 T1689 F1690 W1691 => ?_)
                        have F1692 := F_1675.trans F1690 (by decide)
                        have B1693 : sf_B 1 11 (m1686 24) := by rw [W1691 24 (by decide)]; exact B1678
                        have ek1694 : (m1686 24).toInt = (z1544).toInt := by rw [W1691 24 (by decide)]; exact ek1679
                        have W1695 : rf_W [0, 23, 24, 26] m m1686 := W1680.trans W1691 (by decide)
                        have W1696 : rf_W [23, 24, 26] m52 m1686 := W1681.trans W1691 (by decide)
                        have W1697 : rf_W [] m1550 m1686 := W_1675.trans W1691 (by decide)
                        show pm_R _ 251 101 [.ref 41, .int a0, .int a1, .int (m40 24), .long r50, pm_no, .int x6_1519, .int x7_1519, .int x8_1675] [.long r1684, .int x6_1519] _ _
                        refine pm_R_lo pm_M251 (pc_q := 103) rfl rfl rfl ?_
                        refine sf_R_lcmp pm_M251 (pc_q := 104) rfl rfl (fun z1698 e1699 => ?_)
                        refine pm_R_ifc pm_M251 (t := 114) (pc_q := 107) rfl rfl rfl (fun c1700 => ?_) (fun c1700 => ?_)
                        · have k1701 := sf_lneC e1699 c1700
                          refine pm_R_op pm_M251 (pc_q := 115) (st_q := [.int 0, .int x6_1519]) (pm_q251_1 (Nat.le_of_ble_eq_true rfl)) rfl rfl ?_
                          refine sf_R_iany pm_M251 (pc_q := 116) (st := []) (pm_q251_1 (Nat.le_of_ble_eq_true rfl)) rfl rfl (fun z1705 => ?_)
                          refine pm_R_lo pm_M251 (pc_q := 118) (ls_q := [.ref 41, .int a0, .int a1, .int (m40 24), .long r50, pm_no, .int z1705, .int x7_1519, .int x8_1675]) (st_q := []) (pm_q251_1 (Nat.le_of_ble_eq_true rfl)) rfl rfl ?_
                          refine sf_R_iinc pm_M251 (pc_q := 121) (ls_q := fun z => [.ref 41, .int a0, .int a1, .int (m40 24), .long r50, pm_no, .int z1705, .int z, .int x8_1675]) (pm_q251_1 (Nat.le_of_ble_eq_true rfl)) B1525 rfl (by decide) (by decide) (by decide) (fun _ => rfl) rfl (fun z1706 e1707 B1708 => ?_)
                          show pm_R _ 251 121 [.ref 41, .int a0, .int a1, .int (m40 24), .long r50, pm_no, .int z1705, .int z1706, .int x8_1675] [] _ _
                          refine pm_R_br pm_M251 (pc_q := 33) (pm_q251_1 (Nat.le_of_ble_eq_true rfl)) rfl ?_
                          exact ih_1519 _ (sf_up hN_1519 e1707 B1525 (by decide) (by decide)) h1688 m1686 w1687 z1705 z1706 (.int x8_1675) T1689 F1692 W1696 (sf_any z1705) (sf_weak B1708 (by decide) (by decide)) rfl rfl
                        · have B1709 : sf_B 0 0 z1698 := sf_eqL (Classical.not_not.mp c1700) sf_k0
                          have k1710 := lf_ge e1699 B1709 (by decide)
                          refine pm_R_op pm_M251 (pc_q := 108) (st_q := [.int 1, .int x6_1519]) (pm_q251_1 (Nat.le_of_ble_eq_true rfl)) rfl rfl ?_
                          refine pm_R_lo pm_M251 (pc_q := 110) (pm_q251_1 (Nat.le_of_ble_eq_true rfl)) rfl rfl ?_
                          refine sf_R_iany pm_M251 (pc_q := 111) (st := [.int x6_1519]) (pm_q251_1 (Nat.le_of_ble_eq_true rfl)) rfl rfl (fun z1714 => ?_)
                          refine pm_R_br pm_M251 (pc_q := 115) (pm_q251_1 (Nat.le_of_ble_eq_true rfl)) rfl ?_
                          refine sf_R_iany pm_M251 (pc_q := 116) (st := []) (pm_q251_1 (Nat.le_of_ble_eq_true rfl)) rfl rfl (fun z1718 => ?_)
                          refine pm_R_lo pm_M251 (pc_q := 118) (ls_q := [.ref 41, .int a0, .int a1, .int (m40 24), .long r50, pm_no, .int z1718, .int x7_1519, .int x8_1675]) (st_q := []) (pm_q251_1 (Nat.le_of_ble_eq_true rfl)) rfl rfl ?_
                          refine sf_R_iinc pm_M251 (pc_q := 121) (ls_q := fun z => [.ref 41, .int a0, .int a1, .int (m40 24), .long r50, pm_no, .int z1718, .int z, .int x8_1675]) (pm_q251_1 (Nat.le_of_ble_eq_true rfl)) B1525 rfl (by decide) (by decide) (by decide) (fun _ => rfl) rfl (fun z1719 e1720 B1721 => ?_)
                          show pm_R _ 251 121 [.ref 41, .int a0, .int a1, .int (m40 24), .long r50, pm_no, .int z1718, .int z1719, .int x8_1675] [] _ _
                          refine pm_R_br pm_M251 (pc_q := 33) (pm_q251_1 (Nat.le_of_ble_eq_true rfl)) rfl ?_
                          exact ih_1519 _ (sf_up hN_1519 e1720 B1525 (by decide) (by decide)) h1688 m1686 w1687 z1718 z1719 (.int x8_1675) T1689 F1692 W1696 (sf_any z1718) (sf_weak B1721 (by decide) (by decide)) rfl rfl
                      · have B1722 : sf_B 0 10 x8_1675 := sf_ltL (Int32.not_le.mp c1682) Bx8_1675 B1678
                        refine pm_R_lo pm_M251 (pc_q := 74) rfl rfl rfl ?_
                        refine rf_R_get pm_M251 T_1675 (pc_q := 77) (v := .ref 53) rfl rfl rfl rfl ?_
                        refine pm_R_lo pm_M251 (pc_q := 79) rfl rfl rfl ?_
                        refine pm_R_lo pm_M251 (pc_q := 80) rfl rfl rfl ?_
                        refine rf_R_get pm_M251 T_1675 (pc_q := 83) (v := .ref 53) rfl rfl rfl rfl ?_
                        refine pm_R_lo pm_M251 (pc_q := 85) rfl rfl rfl ?_
                        refine pm_R_op pm_M251 (pc_q := 86) (st_q := [.int 1, .int x8_1675, .ref 53, .int x8_1675, .ref 53]) rfl rfl rfl ?_
                        refine sf_R_iadd pm_M251 (pc_q := 87) rfl rfl B1722 sf_k1 (by decide) (by decide) (fun z1723 e1724 B1725 => ?_)
                        obtain ⟨f1726, e1727⟩ := T_1675.2.2.2.1 53 (by decide) (by decide)
                        refine rf_R_ild pm_M251 T_1675 (pc_q := 88) rfl e1727 (by decide) (sf_in B1725 (by decide) (by decide)) rfl (fun z1729 ez1730 => ?_)
                        refine rf_R_ist pm_M251 T_1675 (pc_q := 89) rfl e1727 (by decide) (by decide) (sf_in B1722 (by decide) (by decide)) ⟨_, rfl⟩ rfl (fun h1731 T1732 F1733 e1734 => ?_)
                        have F1735 := F_1675.trans F1733 (by decide)
                        refine sf_R_iinc pm_M251 (pc_q := 92) (ls_q := fun z => [.ref 41, .int a0, .int a1, .int (m40 24), .long r50, pm_no, .int x6_1519, .int x7_1519, .int z]) rfl B1722 rfl (by decide) (by decide) (by decide) (fun _ => rfl) rfl (fun z1736 e1737 B1738 => ?_)
                        show pm_R _ 251 92 [.ref 41, .int a0, .int a1, .int (m40 24), .long r50, pm_no, .int x6_1519, .int x7_1519, .int z1736] [] _ _
                        refine pm_R_br pm_M251 (pc_q := 64) rfl rfl ?_
                        exact ih_1675 _ (sf_up hN_1675 e1737 B1722 (by decide) (by decide)) h1731 m_1675 w_1675 z1736 T1732 F1735 W_1675 (sf_weak B1738 (by decide) (by decide)) rfl
                  exact L_1675 _ h1547 m1550 w1532 x7_1519 T1548 F1552 (rf_W.refl _ _) B1525 rfl
          exact L_1519 _ h54 m52 w53 0 0 (pm_no) T55 F58 (rf_W.refl _ _) (sf_weak sf_k0 (by decide) (by decide)) (sf_weak sf_k0 (by decide) (by decide)) rfl rfl

set_option maxRecDepth 100000 in
set_option maxHeartbeats 4000000 in
/-- SilentTableModel.leaf -/
theorem rf_c231 {d : Nat} {m : Nat → Int32} {w : Int64} {h : pm_H} {Q : Option Value → pm_H → Prop} {a0 : Int32} (T : rf_T m w h) (Ba0 : sf_B 0 23 a0) (K : ∀ (m_q : Nat → Int32) (w_q : Int64) (h_q : pm_H), rf_T m_q w_q h_q → rf_G [61, 64, 65] h h_q → rf_W [] m m_q → Q none h_q) : pm_R (d + 2) 231 0 [.ref 41, .int a0, pm_no, pm_no, pm_no, pm_no] [] h Q := by
  refine pm_R_lo pm_M231 (pc_q := 1) rfl rfl rfl ?_
  refine rf_R_get pm_M231 T (pc_q := 4) (v := .ref 60) rfl rfl rfl rfl ?_
  refine pm_R_lo pm_M231 (pc_q := 5) rfl rfl rfl ?_
  obtain ⟨f1, e2, b3⟩ := T.2.2.2.1 60 (by decide) (by decide)
  refine rf_R_lld pm_M231 T (pc_q := 6) rfl e2 (by decide) (by decide) (sf_in Ba0 (by decide) (by decide)) rfl (fun z4 ez5 => ?_)
  have B6 : lf_B 0 9223372036854775807 z4 := ez5 ▸ b3 _
  refine pm_R_lo pm_M231 (pc_q := 7) (ls_q := [.ref 41, .int a0, .long z4, pm_no, pm_no, pm_no]) (st_q := []) rfl rfl rfl ?_
  refine pm_R_lo pm_M231 (pc_q := 8) rfl rfl rfl ?_
  refine rf_R_get pm_M231 T (pc_q := 11) (v := .ref 58) rfl rfl rfl rfl ?_
  refine pm_R_lo pm_M231 (pc_q := 12) rfl rfl rfl ?_
  obtain ⟨f7, e8, b9⟩ := T.2.2.2.1 58 (by decide) (by decide)
  refine rf_R_ild pm_M231 T (pc_q := 13) rfl e8 (by decide) (sf_in Ba0 (by decide) (by decide)) rfl (fun z10 ez11 => ?_)
  have B12 : sf_B 0 11 z10 := ez11 ▸ b9 _
  refine pm_R_lo pm_M231 (pc_q := 15) (ls_q := [.ref 41, .int a0, .long z4, pm_no, .int z10, pm_no]) (st_q := []) rfl rfl rfl ?_
  refine pm_R_op pm_M231 (pc_q := 16) (st_q := [.int 0]) rfl rfl rfl ?_
  refine pm_R_lo pm_M231 (pc_q := 18) (ls_q := [.ref 41, .int a0, .long z4, pm_no, .int z10, .int 0]) (st_q := []) rfl rfl rfl ?_
  have L_1095 : ∀ (N : Nat) (x5_1095 : Int32) (y2_1095 : Int64), sf_B 0 16 x5_1095 → (16 - x5_1095.toInt).toNat = N → pm_R (d + 2) 231 18 [.ref 41, .int a0, .long y2_1095, pm_no, .int z10, .int x5_1095] [] h Q := by
    intro N
    induction N using Nat.strongRecOn with
    | ind N ih_1095 =>
      intro x5_1095 y2_1095 Bx5_1095 hN_1095
      refine pm_R_lo pm_M231 (pc_q := 20) rfl rfl rfl ?_
      refine pm_R_lo pm_M231 (pc_q := 21) rfl rfl rfl ?_
      refine pm_R_cv pm_M231 (pc_q := 24) (a := 41) (ra := []) (rest := [.int x5_1095]) (ls_q := [.ref 41]) rfl rfl (Or.inl rfl) pm_M203 T.2.1 rfl (by decide) (Nat.lt_of_lt_of_le (by decide) T.1) rfl rfl (Nat.le_of_ble_eq_true rfl) rfl rfl ?_
      refine pm_R_lo pm_M203 (pc_q := 1) rfl rfl rfl ?_
      refine rf_R_get pm_M203 T (pc_q := 4) (v := .ref 47) rfl rfl rfl rfl ?_
      refine pm_R_op pm_M203 (pc_q := 6) (st_q := [.int 100, .ref 47]) rfl rfl rfl ?_
      refine pm_R_lo pm_M203 (pc_q := 7) rfl rfl rfl ?_
      have B1096 : sf_B 0 1 (m 23) := T.2.2.1 23
      refine rf_R_get pm_M203 T (pc_q := 10) (v := .int (m 23)) rfl rfl rfl rfl ?_
      refine sf_R_imul pm_M203 (pc_q := 11) rfl rfl sf_k100 B1096 (by decide) (by decide) (by decide) (fun z1097 e1098 B1099 => ?_)
      refine pm_R_op pm_M203 (pc_q := 12) (st_q := [.int 1, .int z1097, .ref 47]) rfl rfl rfl ?_
      refine sf_R_iadd pm_M203 (pc_q := 13) rfl rfl B1099 sf_k1 (by decide) (by decide) (fun z1100 e1101 B1102 => ?_)
      obtain ⟨f1103, e1104, b1105⟩ := T.2.2.2.1 47 (by decide) (by decide)
      refine rf_R_ild pm_M203 T (pc_q := 14) rfl e1104 (by decide) (sf_in B1102 (by decide) (by decide)) rfl (fun z1106 ez1107 => ?_)
      have e1108 : (z1100).toInt = 100 * ((m 23)).toInt + 1 := (sf_aux7 _ _ _ e1098 e1101)
      have B1109 : sf_B 0 16 z1106 := ez1107 ▸ rf_p47b b1105 e1108 B1096 (by decide)
      refine pm_R_ret pm_M203 (r := some (.int z1106)) rfl (pm_ret_i _) ?_
      show pm_R _ 231 24 [.ref 41, .int a0, .long y2_1095, pm_no, .int z10, .int x5_1095] [.int z1106, .int x5_1095] _ _
      refine pm_R_icmp pm_M231 (t := 100) (pc_q := 27) rfl rfl rfl (fun c1110 => ?_) (fun c1110 => ?_)
      · skip
        exact pm_R_ret pm_M231 (r := none) rfl rfl (K m w h T (rf_G.refl [61, 64, 65] h) (rf_W.refl [] m))
      · have B1111 : sf_B 0 15 x5_1095 := sf_ltL (Int32.not_le.mp c1110) Bx5_1095 B1109
        have B1112 : sf_B 1 16 z1106 := sf_ltR (Int32.not_le.mp c1110) Bx5_1095 B1109
        refine pm_R_lo pm_M231 (pc_q := 28) rfl rfl rfl ?_
        refine pm_R_lo pm_M231 (pc_q := 30) rfl rfl rfl ?_
        refine pm_R_lo pm_M231 (pc_q := 32) rfl rfl rfl ?_
        refine pm_R_cv pm_M231 (pc_q := 35) (a := 41) (ra := [.int z10, .int x5_1095]) (rest := []) (ls_q := [.ref 41, .int x5_1095, .int z10]) rfl rfl (Or.inl rfl) pm_M204 T.2.1 rfl (by decide) (Nat.lt_of_lt_of_le (by decide) T.1) rfl rfl (Nat.le_of_ble_eq_true rfl) rfl rfl ?_
        refine pm_R_lo pm_M204 (pc_q := 1) rfl rfl rfl ?_
        refine rf_R_get pm_M204 T (pc_q := 4) (v := .ref 53) rfl rfl rfl rfl ?_
        refine pm_R_lo pm_M204 (pc_q := 5) rfl rfl rfl ?_
        obtain ⟨f1113, e1114⟩ := T.2.2.2.1 53 (by decide) (by decide)
        refine rf_R_ild pm_M204 T (pc_q := 6) rfl e1114 (by decide) (sf_in B12 (by decide) (by decide)) rfl (fun z1116 ez1117 => ?_)
        refine sf_R_lany pm_M204 (pc_q := 7) (st := []) rfl rfl rfl (fun z1118 => ?_)
        refine pm_R_lo pm_M204 (pc_q := 8) rfl rfl rfl ?_
        refine pm_R_lo pm_M204 (pc_q := 9) rfl rfl rfl ?_
        refine pm_R_op pm_M204 (pc_q := 10) (st_q := [.int 0, .int x5_1095, .ref 41, .long z1118]) rfl rfl rfl ?_
        refine pm_R_cv pm_M204 (pc_q := 13) (a := 41) (ra := [.int 0, .int x5_1095]) (rest := [.long z1118]) (ls_q := [.ref 41, .int x5_1095, .int 0]) rfl rfl (Or.inl rfl) pm_M205 T.2.1 rfl (by decide) (Nat.lt_of_lt_of_le (by decide) T.1) rfl rfl (Nat.le_of_ble_eq_true rfl) rfl rfl ?_
        refine pm_R_lo pm_M205 (pc_q := 1) rfl rfl rfl ?_
        refine rf_R_get pm_M205 T (pc_q := 4) (v := .ref 47) rfl rfl rfl rfl ?_
        refine pm_R_op pm_M205 (pc_q := 6) (st_q := [.int 100, .ref 47]) rfl rfl rfl ?_
        refine pm_R_lo pm_M205 (pc_q := 7) rfl rfl rfl ?_
        refine rf_R_get pm_M205 T (pc_q := 10) (v := .int (m 23)) rfl rfl rfl rfl ?_
        refine sf_R_imulV pm_M205 (pc_q := 11) rfl rfl sf_k100 B1096 (by decide) (by decide) (by decide) e1098 ?_
        refine pm_R_op pm_M205 (pc_q := 13) (st_q := [.int 42, .int z1097, .ref 47]) rfl rfl rfl ?_
        refine sf_R_iadd pm_M205 (pc_q := 14) rfl rfl B1099 sf_k42 (by decide) (by decide) (fun z1119 e1120 B1121 => ?_)
        refine pm_R_op pm_M205 (pc_q := 15) (st_q := [.int 3, .int z1119, .ref 47]) rfl rfl rfl ?_
        refine pm_R_lo pm_M205 (pc_q := 16) rfl rfl rfl ?_
        refine sf_R_imul pm_M205 (pc_q := 17) rfl rfl sf_k3 B1111 (by decide) (by decide) (by decide) (fun z1122 e1123 B1124 => ?_)
        refine sf_R_iadd pm_M205 (pc_q := 18) rfl rfl B1121 B1124 (by decide) (by decide) (fun z1125 e1126 B1127 => ?_)
        refine pm_R_lo pm_M205 (pc_q := 19) rfl rfl rfl ?_
        refine sf_R_iadd pm_M205 (pc_q := 20) rfl rfl B1127 sf_k0 (by decide) (by decide) (fun z1128 e1129 B1130 => ?_)
        refine rf_R_ild pm_M205 T (pc_q := 21) rfl e1104 (by decide) (sf_in B1130 (by decide) (by decide)) rfl (fun z1131 ez1132 => ?_)
        have e1133 : (z1128).toInt = 100 * ((m 23)).toInt + 3 * (x5_1095).toInt + 42 := (sf_aux8 _ _ _ _ _ _ _ e1098 e1120 e1123 e1126 e1129)
        have B1134 : sf_B 0 9 z1131 := ez1132 ▸ rf_p47s b1105 e1133 B1096 B1111 (by decide) (by decide) (by decide)
        refine pm_R_ret pm_M205 (r := some (.int z1131)) rfl (pm_ret_i _) ?_
        show pm_R _ 204 13 [.ref 41, .int x5_1095, .int z10] [.int z1131, .long z1118] _ _
        refine pm_R_cs pm_M204 (pc_q := 16) (ra := [.int z1131, .long z1118]) (rest := []) (ls_q := [.long z1118, pm_no, .int z1131]) rfl rfl (Or.inl rfl) pm_M206 rfl rfl (Nat.le_of_ble_eq_true rfl) rfl rfl ?_
        refine pm_R_lo pm_M206 (pc_q := 1) rfl rfl rfl ?_
        refine pm_R_lo pm_M206 (pc_q := 2) rfl rfl rfl ?_
        refine sf_R_lany pm_M206 (pc_q := 3) (st := []) rfl rfl rfl (fun z1135 => ?_)
        refine pm_R_op pm_M206 (pc_q := 4) (st_q := [.long 1, .long z1135]) rfl rfl rfl ?_
        refine sf_R_lany pm_M206 (pc_q := 5) (st := []) rfl rfl rfl (fun z1136 => ?_)
        refine pm_R_op pm_M206 (pc_q := 6) (st_q := [.long 1, .long z1136]) rfl rfl rfl ?_
        refine sf_R_lcmp pm_M206 (pc_q := 7) rfl rfl (fun z1137 e1138 => ?_)
        refine pm_R_ifc pm_M206 (t := 14) (pc_q := 10) rfl rfl rfl (fun c1139 => ?_) (fun c1139 => ?_)
        · have k1140 := sf_lneC e1138 c1139
          refine pm_R_op pm_M206 (pc_q := 15) (st_q := [.int 0]) rfl rfl rfl ?_
          refine pm_R_ret pm_M206 (r := some (.int 0)) rfl rfl ?_
          show pm_R _ 204 16 [.ref 41, .int x5_1095, .int z10] [.int 0] _ _
          refine pm_R_br pm_M204 (pc_q := 39) (st_q := []) rfl rfl ?_
          refine pm_R_op pm_M204 (pc_q := 40) (st_q := [.int 0]) rfl rfl rfl ?_
          refine pm_R_ret pm_M204 (r := some (.int 0)) rfl rfl ?_
          show pm_R _ 231 35 [.ref 41, .int a0, .long y2_1095, pm_no, .int z10, .int x5_1095] [.int 0] _ _
          refine pm_R_br pm_M231 (pc_q := 94) (st_q := []) rfl rfl ?_
          refine sf_R_iinc pm_M231 (pc_q := 97) (ls_q := fun z => [.ref 41, .int a0, .long y2_1095, pm_no, .int z10, .int z]) rfl B1111 rfl (by decide) (by decide) (by decide) (fun _ => rfl) rfl (fun z1141 e1142 B1143 => ?_)
          show pm_R _ 231 97 [.ref 41, .int a0, .long y2_1095, pm_no, .int z10, .int z1141] [] _ _
          refine pm_R_br pm_M231 (pc_q := 18) rfl rfl ?_
          exact ih_1095 _ (sf_up hN_1095 e1142 B1111 (by decide) (by decide)) z1141 y2_1095 (sf_weak B1143 (by decide) (by decide)) rfl
        · have B1144 : sf_B 0 0 z1137 := sf_eqL (Classical.not_not.mp c1139) sf_k0
          have B1145 : lf_B 1 1 z1136 := lf_eqB e1138 B1144 (⟨by decide, by decide⟩ : lf_B 1 1 1)
          refine pm_R_op pm_M206 (pc_q := 11) (st_q := [.int 1]) rfl rfl rfl ?_
          refine pm_R_br pm_M206 (pc_q := 15) rfl rfl ?_
          refine pm_R_ret pm_M206 (r := some (.int 1)) rfl rfl ?_
          show pm_R _ 204 16 [.ref 41, .int x5_1095, .int z10] [.int 1] _ _
          refine pm_R_br pm_M204 (pc_q := 19) (st_q := []) rfl rfl ?_
          refine pm_R_lo pm_M204 (pc_q := 20) rfl rfl rfl ?_
          have B1146 : sf_B (-1) 11 (m 26) := T.2.2.1 26
          refine rf_R_get pm_M204 T (pc_q := 23) (v := .int (m 26)) rfl rfl rfl rfl ?_
          refine pm_R_lo pm_M204 (pc_q := 24) rfl rfl rfl ?_
          refine pm_R_icmp pm_M204 (t := 35) (pc_q := 27) rfl rfl rfl (fun c1147 => ?_) (fun c1147 => ?_)
          · skip
            refine pm_R_op pm_M204 (pc_q := 36) (st_q := [.int 1]) rfl rfl rfl ?_
            refine pm_R_br pm_M204 (pc_q := 40) rfl rfl ?_
            refine pm_R_ret pm_M204 (r := some (.int 1)) rfl rfl ?_
            show pm_R _ 231 35 [.ref 41, .int a0, .long y2_1095, pm_no, .int z10, .int x5_1095] [.int 1] _ _
            refine pm_R_br pm_M231 (pc_q := 38) (st_q := []) rfl rfl ?_
            refine pm_R_lo pm_M231 (pc_q := 39) rfl rfl rfl ?_
            refine pm_R_lo pm_M231 (pc_q := 41) rfl rfl rfl ?_
            refine pm_R_op pm_M231 (pc_q := 42) (st_q := [.int 1, .int x5_1095, .ref 41]) rfl rfl rfl ?_
            refine pm_R_cv pm_M231 (pc_q := 45) (a := 41) (ra := [.int 1, .int x5_1095]) (rest := []) (ls_q := [.ref 41, .int x5_1095, .int 1]) rfl rfl (Or.inl rfl) pm_M205 T.2.1 rfl (by decide) (Nat.lt_of_lt_of_le (by decide) T.1) rfl rfl (Nat.le_of_ble_eq_true rfl) rfl rfl ?_
            refine pm_R_lo pm_M205 (pc_q := 1) rfl rfl rfl ?_
            refine rf_R_get pm_M205 T (pc_q := 4) (v := .ref 47) rfl rfl rfl rfl ?_
            refine pm_R_op pm_M205 (pc_q := 6) (st_q := [.int 100, .ref 47]) rfl rfl rfl ?_
            refine pm_R_lo pm_M205 (pc_q := 7) rfl rfl rfl ?_
            refine rf_R_get pm_M205 T (pc_q := 10) (v := .int (m 23)) rfl rfl rfl rfl ?_
            refine sf_R_imulV pm_M205 (pc_q := 11) rfl rfl sf_k100 B1096 (by decide) (by decide) (by decide) e1098 ?_
            refine pm_R_op pm_M205 (pc_q := 13) (st_q := [.int 42, .int z1097, .ref 47]) rfl rfl rfl ?_
            refine sf_R_iaddV pm_M205 (pc_q := 14) rfl rfl B1099 sf_k42 (by decide) (by decide) e1120 ?_
            refine pm_R_op pm_M205 (pc_q := 15) (st_q := [.int 3, .int z1119, .ref 47]) rfl rfl rfl ?_
            refine pm_R_lo pm_M205 (pc_q := 16) rfl rfl rfl ?_
            refine sf_R_imulV pm_M205 (pc_q := 17) rfl rfl sf_k3 B1111 (by decide) (by decide) (by decide) e1123 ?_
            refine sf_R_iaddV pm_M205 (pc_q := 18) rfl rfl B1121 B1124 (by decide) (by decide) e1126 ?_
            refine pm_R_lo pm_M205 (pc_q := 19) rfl rfl rfl ?_
            refine sf_R_iadd pm_M205 (pc_q := 20) rfl rfl B1127 sf_k1 (by decide) (by decide) (fun z1148 e1149 B1150 => ?_)
            refine rf_R_ild pm_M205 T (pc_q := 21) rfl e1104 (by decide) (sf_in B1150 (by decide) (by decide)) rfl (fun z1151 ez1152 => ?_)
            have e1153 : (z1148).toInt = 100 * ((m 23)).toInt + 3 * (x5_1095).toInt + 43 := (sf_aux9 _ _ _ _ _ _ _ e1098 e1120 e1123 e1126 e1149)
            have B1154 : sf_B 0 5 z1151 := ez1152 ▸ rf_p47k b1105 e1153 B1096 B1111 (by decide) (by decide) (by decide)
            refine pm_R_ret pm_M205 (r := some (.int z1151)) rfl (pm_ret_i _) ?_
            show pm_R _ 231 45 [.ref 41, .int a0, .long y2_1095, pm_no, .int z10, .int x5_1095] [.int z1151] _ _
            refine pm_R_lo pm_M231 (pc_q := 46) rfl rfl rfl ?_
            refine rf_R_get pm_M231 T (pc_q := 49) (v := .ref 57) rfl rfl rfl rfl ?_
            refine pm_R_lo pm_M231 (pc_q := 50) rfl rfl rfl ?_
            obtain ⟨f1155, e1156, b1157⟩ := T.2.2.2.1 57 (by decide) (by decide)
            refine rf_R_ild pm_M231 T (pc_q := 51) rfl e1156 (by decide) (sf_in Ba0 (by decide) (by decide)) rfl (fun z1158 ez1159 => ?_)
            have B1160 : sf_B 0 5 z1158 := ez1159 ▸ b1157 _
            refine pm_R_icmp pm_M231 (t := 94) (pc_q := 54) rfl rfl rfl (fun c1161 => ?_) (fun c1161 => ?_)
            · skip
              refine sf_R_iinc pm_M231 (pc_q := 97) (ls_q := fun z => [.ref 41, .int a0, .long y2_1095, pm_no, .int z10, .int z]) rfl B1111 rfl (by decide) (by decide) (by decide) (fun _ => rfl) rfl (fun z1162 e1163 B1164 => ?_)
              show pm_R _ 231 97 [.ref 41, .int a0, .long y2_1095, pm_no, .int z10, .int z1162] [] _ _
              refine pm_R_br pm_M231 (pc_q := 18) rfl rfl ?_
              exact ih_1095 _ (sf_up hN_1095 e1163 B1111 (by decide) (by decide)) z1162 y2_1095 (sf_weak B1164 (by decide) (by decide)) rfl
            · refine pm_R_lo pm_M231 (pc_q := 55) rfl rfl rfl ?_
              refine pm_R_op pm_M231 (pc_q := 56) (st_q := [.long 0, .long y2_1095]) rfl rfl rfl ?_
              refine sf_R_lcmp pm_M231 (pc_q := 57) rfl rfl (fun z1165 e1166 => ?_)
              refine pm_R_ifc pm_M231 (t := 90) (pc_q := 60) rfl rfl rfl (fun c1167 => ?_) (fun c1167 => ?_)
              · have k1168 := sf_lneC e1166 c1167
                refine pm_R_lo pm_M231 (pc_q := 91) rfl rfl rfl ?_
                refine pm_R_op pm_M231 (pc_q := 92) (st_q := [.long 1, .long y2_1095]) rfl rfl rfl ?_
                refine sf_R_lany pm_M231 (pc_q := 93) (st := []) rfl rfl rfl (fun z1169 => ?_)
                refine pm_R_lo pm_M231 (pc_q := 94) (ls_q := [.ref 41, .int a0, .long z1169, pm_no, .int z10, .int x5_1095]) (st_q := []) rfl rfl rfl ?_
                refine sf_R_iinc pm_M231 (pc_q := 97) (ls_q := fun z => [.ref 41, .int a0, .long z1169, pm_no, .int z10, .int z]) rfl B1111 rfl (by decide) (by decide) (by decide) (fun _ => rfl) rfl (fun z1170 e1171 B1172 => ?_)
                show pm_R _ 231 97 [.ref 41, .int a0, .long z1169, pm_no, .int z10, .int z1170] [] _ _
                refine pm_R_br pm_M231 (pc_q := 18) rfl rfl ?_
                exact ih_1095 _ (sf_up hN_1095 e1171 B1111 (by decide) (by decide)) z1170 z1169 (sf_weak B1172 (by decide) (by decide)) rfl
              · have B1173 : sf_B 0 0 z1165 := sf_eqL (Classical.not_not.mp c1167) sf_k0
                have B1174 : lf_B 0 0 y2_1095 := lf_eqB e1166 B1173 (⟨by decide, by decide⟩ : lf_B 0 0 0)
                refine pm_R_lo pm_M231 (pc_q := 61) rfl rfl rfl ?_
                refine rf_R_get pm_M231 T (pc_q := 64) (v := .ref 65) rfl rfl rfl rfl ?_
                refine pm_R_lo pm_M231 (pc_q := 66) rfl rfl rfl ?_
                refine pm_R_lo pm_M231 (pc_q := 68) rfl rfl rfl ?_
                obtain ⟨f1175, e1176, b1177⟩ := T.2.2.2.1 65 (by decide) (by decide)
                refine rf_R_ist pm_M231 T (pc_q := 69) rfl e1176 (by decide) (by decide) (sf_in B12 (by decide) (by decide)) ⟨_, rfl, sf_upd b1177 B1111 _⟩ rfl (fun h1178 T1179 F1180 e1181 => ?_)
                have F1182 := (rf_G.refl [61, 64, 65] h).trans F1180 (by decide)
                refine pm_R_lo pm_M231 (pc_q := 70) rfl rfl rfl ?_
                refine rf_R_get pm_M231 T1179 (pc_q := 73) (v := .ref 61) rfl rfl rfl rfl ?_
                refine pm_R_lo pm_M231 (pc_q := 74) rfl rfl rfl ?_
                refine pm_R_op pm_M231 (pc_q := 75) (st_q := [.int (-1), .int a0, .ref 61]) rfl rfl rfl ?_
                obtain ⟨f1183, e1184, b1185⟩ := T1179.2.2.2.1 61 (by decide) (by decide)
                refine rf_R_ist pm_M231 T1179 (pc_q := 76) rfl e1184 (by decide) (by decide) (sf_in Ba0 (by decide) (by decide)) ⟨_, rfl, sf_upd b1185 (sf_weak sf_kn1 (by decide) (by decide)) _⟩ rfl (fun h1186 T1187 F1188 e1189 => ?_)
                have F1190 := F1182.trans F1188 (by decide)
                refine pm_R_lo pm_M231 (pc_q := 77) rfl rfl rfl ?_
                refine rf_R_get pm_M231 T1187 (pc_q := 80) (v := .ref 64) rfl rfl rfl rfl ?_
                refine pm_R_lo pm_M231 (pc_q := 81) rfl rfl rfl ?_
                refine pm_R_lo pm_M231 (pc_q := 82) rfl rfl rfl ?_
                refine pm_R_lo pm_M231 (pc_q := 84) rfl rfl rfl ?_
                refine pm_R_op pm_M231 (pc_q := 85) (st_q := [.int 2, .int x5_1095, .ref 41, .int a0, .ref 64]) rfl rfl rfl ?_
                refine pm_R_cv pm_M231 (pc_q := 88) (a := 41) (ra := [.int 2, .int x5_1095]) (rest := [.int a0, .ref 64]) (ls_q := [.ref 41, .int x5_1095, .int 2]) rfl rfl (Or.inl rfl) pm_M205 T1187.2.1 rfl (by decide) (Nat.lt_of_lt_of_le (by decide) T1187.1) rfl rfl (Nat.le_of_ble_eq_true rfl) rfl rfl ?_
                refine pm_R_lo pm_M205 (pc_q := 1) rfl rfl rfl ?_
                refine rf_R_get pm_M205 T1187 (pc_q := 4) (v := .ref 47) rfl rfl rfl rfl ?_
                refine pm_R_op pm_M205 (pc_q := 6) (st_q := [.int 100, .ref 47]) rfl rfl rfl ?_
                refine pm_R_lo pm_M205 (pc_q := 7) rfl rfl rfl ?_
                refine rf_R_get pm_M205 T1187 (pc_q := 10) (v := .int (m 23)) rfl rfl rfl rfl ?_
                refine sf_R_imulV pm_M205 (pc_q := 11) rfl rfl sf_k100 B1096 (by decide) (by decide) (by decide) e1098 ?_
                refine pm_R_op pm_M205 (pc_q := 13) (st_q := [.int 42, .int z1097, .ref 47]) rfl rfl rfl ?_
                refine sf_R_iaddV pm_M205 (pc_q := 14) rfl rfl B1099 sf_k42 (by decide) (by decide) e1120 ?_
                refine pm_R_op pm_M205 (pc_q := 15) (st_q := [.int 3, .int z1119, .ref 47]) rfl rfl rfl ?_
                refine pm_R_lo pm_M205 (pc_q := 16) rfl rfl rfl ?_
                refine sf_R_imulV pm_M205 (pc_q := 17) rfl rfl sf_k3 B1111 (by decide) (by decide) (by decide) e1123 ?_
                refine sf_R_iaddV pm_M205 (pc_q := 18) rfl rfl B1121 B1124 (by decide) (by decide) e1126 ?_
                refine pm_R_lo pm_M205 (pc_q := 19) rfl rfl rfl ?_
                refine sf_R_iadd pm_M205 (pc_q := 20) rfl rfl B1127 sf_k2 (by decide) (by decide) (fun z1191 e1192 B1193 => ?_)
                have e1194 := (F1188.cell (by decide) (F1180.cell (by decide) e1104))
                refine rf_R_ild pm_M205 T1187 (pc_q := 21) rfl e1194 (by decide) (sf_in B1193 (by decide) (by decide)) rfl (fun z1195 ez1196 => ?_)
                have e1197 : (z1191).toInt = 100 * ((m 23)).toInt + 3 * (x5_1095).toInt + 44 := (sf_aux10 _ _ _ _ _ _ _ e1098 e1120 e1123 e1126 e1192)
                have B1198 : sf_B 0 49 z1195 := ez1196 ▸ rf_p47v b1105 e1197 B1096 B1111 (by decide) (by decide) (by decide)
                refine pm_R_ret pm_M205 (r := some (.int z1195)) rfl (pm_ret_i _) ?_
                show pm_R _ 231 88 [.ref 41, .int a0, .long y2_1095, pm_no, .int z10, .int x5_1095] [.int z1195, .int a0, .ref 64] _ _
                obtain ⟨f1199, e1200⟩ := T1187.2.2.2.1 64 (by decide) (by decide)
                refine rf_R_ist pm_M231 T1187 (pc_q := 89) rfl e1200 (by decide) (by decide) (sf_in Ba0 (by decide) (by decide)) ⟨_, rfl⟩ rfl (fun h1202 T1203 F1204 e1205 => ?_)
                have F1206 := F1190.trans F1204 (by decide)
                exact pm_R_ret pm_M231 (r := none) rfl rfl (K m w h1202 T1203 F1206 (rf_W.refl [] m))
          · have B1207 : sf_B 0 11 (m 26) := sf_eqL (Classical.not_not.mp c1147) B12
            refine pm_R_lo pm_M204 (pc_q := 28) rfl rfl rfl ?_
            have B1208 : sf_B 0 15 (m 27) := T.2.2.1 27
            refine rf_R_get pm_M204 T (pc_q := 31) (v := .int (m 27)) rfl rfl rfl rfl ?_
            refine pm_R_lo pm_M204 (pc_q := 32) rfl rfl rfl ?_
            refine pm_R_icmp pm_M204 (t := 39) (pc_q := 35) rfl rfl rfl (fun c1209 => ?_) (fun c1209 => ?_)
            · skip
              refine pm_R_op pm_M204 (pc_q := 40) (st_q := [.int 0]) rfl rfl rfl ?_
              refine pm_R_ret pm_M204 (r := some (.int 0)) rfl rfl ?_
              show pm_R _ 231 35 [.ref 41, .int a0, .long y2_1095, pm_no, .int z10, .int x5_1095] [.int 0] _ _
              refine pm_R_br pm_M231 (pc_q := 94) (st_q := []) rfl rfl ?_
              refine sf_R_iinc pm_M231 (pc_q := 97) (ls_q := fun z => [.ref 41, .int a0, .long y2_1095, pm_no, .int z10, .int z]) rfl B1111 rfl (by decide) (by decide) (by decide) (fun _ => rfl) rfl (fun z1210 e1211 B1212 => ?_)
              show pm_R _ 231 97 [.ref 41, .int a0, .long y2_1095, pm_no, .int z10, .int z1210] [] _ _
              refine pm_R_br pm_M231 (pc_q := 18) rfl rfl ?_
              exact ih_1095 _ (sf_up hN_1095 e1211 B1111 (by decide) (by decide)) z1210 y2_1095 (sf_weak B1212 (by decide) (by decide)) rfl
            · refine pm_R_op pm_M204 (pc_q := 36) (st_q := [.int 1]) rfl rfl rfl ?_
              refine pm_R_br pm_M204 (pc_q := 40) rfl rfl ?_
              refine pm_R_ret pm_M204 (r := some (.int 1)) rfl rfl ?_
              show pm_R _ 231 35 [.ref 41, .int a0, .long y2_1095, pm_no, .int z10, .int x5_1095] [.int 1] _ _
              refine pm_R_br pm_M231 (pc_q := 38) (st_q := []) rfl rfl ?_
              refine pm_R_lo pm_M231 (pc_q := 39) rfl rfl rfl ?_
              refine pm_R_lo pm_M231 (pc_q := 41) rfl rfl rfl ?_
              refine pm_R_op pm_M231 (pc_q := 42) (st_q := [.int 1, .int x5_1095, .ref 41]) rfl rfl rfl ?_
              refine pm_R_cv pm_M231 (pc_q := 45) (a := 41) (ra := [.int 1, .int x5_1095]) (rest := []) (ls_q := [.ref 41, .int x5_1095, .int 1]) rfl rfl (Or.inl rfl) pm_M205 T.2.1 rfl (by decide) (Nat.lt_of_lt_of_le (by decide) T.1) rfl rfl (Nat.le_of_ble_eq_true rfl) rfl rfl ?_
              refine pm_R_lo pm_M205 (pc_q := 1) rfl rfl rfl ?_
              refine rf_R_get pm_M205 T (pc_q := 4) (v := .ref 47) rfl rfl rfl rfl ?_
              refine pm_R_op pm_M205 (pc_q := 6) (st_q := [.int 100, .ref 47]) rfl rfl rfl ?_
              refine pm_R_lo pm_M205 (pc_q := 7) rfl rfl rfl ?_
              refine rf_R_get pm_M205 T (pc_q := 10) (v := .int (m 23)) rfl rfl rfl rfl ?_
              refine sf_R_imulV pm_M205 (pc_q := 11) rfl rfl sf_k100 B1096 (by decide) (by decide) (by decide) e1098 ?_
              refine pm_R_op pm_M205 (pc_q := 13) (st_q := [.int 42, .int z1097, .ref 47]) rfl rfl rfl ?_
              refine sf_R_iaddV pm_M205 (pc_q := 14) rfl rfl B1099 sf_k42 (by decide) (by decide) e1120 ?_
              refine pm_R_op pm_M205 (pc_q := 15) (st_q := [.int 3, .int z1119, .ref 47]) rfl rfl rfl ?_
              refine pm_R_lo pm_M205 (pc_q := 16) rfl rfl rfl ?_
              refine sf_R_imulV pm_M205 (pc_q := 17) rfl rfl sf_k3 B1111 (by decide) (by decide) (by decide) e1123 ?_
              refine sf_R_iaddV pm_M205 (pc_q := 18) rfl rfl B1121 B1124 (by decide) (by decide) e1126 ?_
              refine pm_R_lo pm_M205 (pc_q := 19) rfl rfl rfl ?_
              refine sf_R_iadd pm_M205 (pc_q := 20) rfl rfl B1127 sf_k1 (by decide) (by decide) (fun z1213 e1214 B1215 => ?_)
              refine rf_R_ild pm_M205 T (pc_q := 21) rfl e1104 (by decide) (sf_in B1215 (by decide) (by decide)) rfl (fun z1216 ez1217 => ?_)
              have e1218 : (z1213).toInt = 100 * ((m 23)).toInt + 3 * (x5_1095).toInt + 43 := (sf_aux9 _ _ _ _ _ _ _ e1098 e1120 e1123 e1126 e1214)
              have B1219 : sf_B 0 5 z1216 := ez1217 ▸ rf_p47k b1105 e1218 B1096 B1111 (by decide) (by decide) (by decide)
              refine pm_R_ret pm_M205 (r := some (.int z1216)) rfl (pm_ret_i _) ?_
              show pm_R _ 231 45 [.ref 41, .int a0, .long y2_1095, pm_no, .int z10, .int x5_1095] [.int z1216] _ _
              refine pm_R_lo pm_M231 (pc_q := 46) rfl rfl rfl ?_
              refine rf_R_get pm_M231 T (pc_q := 49) (v := .ref 57) rfl rfl rfl rfl ?_
              refine pm_R_lo pm_M231 (pc_q := 50) rfl rfl rfl ?_
              obtain ⟨f1220, e1221, b1222⟩ := T.2.2.2.1 57 (by decide) (by decide)
              refine rf_R_ild pm_M231 T (pc_q := 51) rfl e1221 (by decide) (sf_in Ba0 (by decide) (by decide)) rfl (fun z1223 ez1224 => ?_)
              have B1225 : sf_B 0 5 z1223 := ez1224 ▸ b1222 _
              refine pm_R_icmp pm_M231 (t := 94) (pc_q := 54) rfl rfl rfl (fun c1226 => ?_) (fun c1226 => ?_)
              · skip
                refine sf_R_iinc pm_M231 (pc_q := 97) (ls_q := fun z => [.ref 41, .int a0, .long y2_1095, pm_no, .int z10, .int z]) rfl B1111 rfl (by decide) (by decide) (by decide) (fun _ => rfl) rfl (fun z1227 e1228 B1229 => ?_)
                show pm_R _ 231 97 [.ref 41, .int a0, .long y2_1095, pm_no, .int z10, .int z1227] [] _ _
                refine pm_R_br pm_M231 (pc_q := 18) rfl rfl ?_
                exact ih_1095 _ (sf_up hN_1095 e1228 B1111 (by decide) (by decide)) z1227 y2_1095 (sf_weak B1229 (by decide) (by decide)) rfl
              · refine pm_R_lo pm_M231 (pc_q := 55) rfl rfl rfl ?_
                refine pm_R_op pm_M231 (pc_q := 56) (st_q := [.long 0, .long y2_1095]) rfl rfl rfl ?_
                refine sf_R_lcmp pm_M231 (pc_q := 57) rfl rfl (fun z1230 e1231 => ?_)
                refine pm_R_ifc pm_M231 (t := 90) (pc_q := 60) rfl rfl rfl (fun c1232 => ?_) (fun c1232 => ?_)
                · have k1233 := sf_lneC e1231 c1232
                  refine pm_R_lo pm_M231 (pc_q := 91) rfl rfl rfl ?_
                  refine pm_R_op pm_M231 (pc_q := 92) (st_q := [.long 1, .long y2_1095]) rfl rfl rfl ?_
                  refine sf_R_lany pm_M231 (pc_q := 93) (st := []) rfl rfl rfl (fun z1234 => ?_)
                  refine pm_R_lo pm_M231 (pc_q := 94) (ls_q := [.ref 41, .int a0, .long z1234, pm_no, .int z10, .int x5_1095]) (st_q := []) rfl rfl rfl ?_
                  refine sf_R_iinc pm_M231 (pc_q := 97) (ls_q := fun z => [.ref 41, .int a0, .long z1234, pm_no, .int z10, .int z]) rfl B1111 rfl (by decide) (by decide) (by decide) (fun _ => rfl) rfl (fun z1235 e1236 B1237 => ?_)
                  show pm_R _ 231 97 [.ref 41, .int a0, .long z1234, pm_no, .int z10, .int z1235] [] _ _
                  refine pm_R_br pm_M231 (pc_q := 18) rfl rfl ?_
                  exact ih_1095 _ (sf_up hN_1095 e1236 B1111 (by decide) (by decide)) z1235 z1234 (sf_weak B1237 (by decide) (by decide)) rfl
                · have B1238 : sf_B 0 0 z1230 := sf_eqL (Classical.not_not.mp c1232) sf_k0
                  have B1239 : lf_B 0 0 y2_1095 := lf_eqB e1231 B1238 (⟨by decide, by decide⟩ : lf_B 0 0 0)
                  refine pm_R_lo pm_M231 (pc_q := 61) rfl rfl rfl ?_
                  refine rf_R_get pm_M231 T (pc_q := 64) (v := .ref 65) rfl rfl rfl rfl ?_
                  refine pm_R_lo pm_M231 (pc_q := 66) rfl rfl rfl ?_
                  refine pm_R_lo pm_M231 (pc_q := 68) rfl rfl rfl ?_
                  obtain ⟨f1240, e1241, b1242⟩ := T.2.2.2.1 65 (by decide) (by decide)
                  refine rf_R_ist pm_M231 T (pc_q := 69) rfl e1241 (by decide) (by decide) (sf_in B12 (by decide) (by decide)) ⟨_, rfl, sf_upd b1242 B1111 _⟩ rfl (fun h1243 T1244 F1245 e1246 => ?_)
                  have F1247 := (rf_G.refl [61, 64, 65] h).trans F1245 (by decide)
                  refine pm_R_lo pm_M231 (pc_q := 70) rfl rfl rfl ?_
                  refine rf_R_get pm_M231 T1244 (pc_q := 73) (v := .ref 61) rfl rfl rfl rfl ?_
                  refine pm_R_lo pm_M231 (pc_q := 74) rfl rfl rfl ?_
                  refine pm_R_op pm_M231 (pc_q := 75) (st_q := [.int (-1), .int a0, .ref 61]) rfl rfl rfl ?_
                  obtain ⟨f1248, e1249, b1250⟩ := T1244.2.2.2.1 61 (by decide) (by decide)
                  refine rf_R_ist pm_M231 T1244 (pc_q := 76) rfl e1249 (by decide) (by decide) (sf_in Ba0 (by decide) (by decide)) ⟨_, rfl, sf_upd b1250 (sf_weak sf_kn1 (by decide) (by decide)) _⟩ rfl (fun h1251 T1252 F1253 e1254 => ?_)
                  have F1255 := F1247.trans F1253 (by decide)
                  refine pm_R_lo pm_M231 (pc_q := 77) rfl rfl rfl ?_
                  refine rf_R_get pm_M231 T1252 (pc_q := 80) (v := .ref 64) rfl rfl rfl rfl ?_
                  refine pm_R_lo pm_M231 (pc_q := 81) rfl rfl rfl ?_
                  refine pm_R_lo pm_M231 (pc_q := 82) rfl rfl rfl ?_
                  refine pm_R_lo pm_M231 (pc_q := 84) rfl rfl rfl ?_
                  refine pm_R_op pm_M231 (pc_q := 85) (st_q := [.int 2, .int x5_1095, .ref 41, .int a0, .ref 64]) rfl rfl rfl ?_
                  refine pm_R_cv pm_M231 (pc_q := 88) (a := 41) (ra := [.int 2, .int x5_1095]) (rest := [.int a0, .ref 64]) (ls_q := [.ref 41, .int x5_1095, .int 2]) rfl rfl (Or.inl rfl) pm_M205 T1252.2.1 rfl (by decide) (Nat.lt_of_lt_of_le (by decide) T1252.1) rfl rfl (Nat.le_of_ble_eq_true rfl) rfl rfl ?_
                  refine pm_R_lo pm_M205 (pc_q := 1) rfl rfl rfl ?_
                  refine rf_R_get pm_M205 T1252 (pc_q := 4) (v := .ref 47) rfl rfl rfl rfl ?_
                  refine pm_R_op pm_M205 (pc_q := 6) (st_q := [.int 100, .ref 47]) rfl rfl rfl ?_
                  refine pm_R_lo pm_M205 (pc_q := 7) rfl rfl rfl ?_
                  refine rf_R_get pm_M205 T1252 (pc_q := 10) (v := .int (m 23)) rfl rfl rfl rfl ?_
                  refine sf_R_imulV pm_M205 (pc_q := 11) rfl rfl sf_k100 B1096 (by decide) (by decide) (by decide) e1098 ?_
                  refine pm_R_op pm_M205 (pc_q := 13) (st_q := [.int 42, .int z1097, .ref 47]) rfl rfl rfl ?_
                  refine sf_R_iaddV pm_M205 (pc_q := 14) rfl rfl B1099 sf_k42 (by decide) (by decide) e1120 ?_
                  refine pm_R_op pm_M205 (pc_q := 15) (st_q := [.int 3, .int z1119, .ref 47]) rfl rfl rfl ?_
                  refine pm_R_lo pm_M205 (pc_q := 16) rfl rfl rfl ?_
                  refine sf_R_imulV pm_M205 (pc_q := 17) rfl rfl sf_k3 B1111 (by decide) (by decide) (by decide) e1123 ?_
                  refine sf_R_iaddV pm_M205 (pc_q := 18) rfl rfl B1121 B1124 (by decide) (by decide) e1126 ?_
                  refine pm_R_lo pm_M205 (pc_q := 19) rfl rfl rfl ?_
                  refine sf_R_iadd pm_M205 (pc_q := 20) rfl rfl B1127 sf_k2 (by decide) (by decide) (fun z1256 e1257 B1258 => ?_)
                  have e1259 := (F1253.cell (by decide) (F1245.cell (by decide) e1104))
                  refine rf_R_ild pm_M205 T1252 (pc_q := 21) rfl e1259 (by decide) (sf_in B1258 (by decide) (by decide)) rfl (fun z1260 ez1261 => ?_)
                  have e1262 : (z1256).toInt = 100 * ((m 23)).toInt + 3 * (x5_1095).toInt + 44 := (sf_aux10 _ _ _ _ _ _ _ e1098 e1120 e1123 e1126 e1257)
                  have B1263 : sf_B 0 49 z1260 := ez1261 ▸ rf_p47v b1105 e1262 B1096 B1111 (by decide) (by decide) (by decide)
                  refine pm_R_ret pm_M205 (r := some (.int z1260)) rfl (pm_ret_i _) ?_
                  show pm_R _ 231 88 [.ref 41, .int a0, .long y2_1095, pm_no, .int z10, .int x5_1095] [.int z1260, .int a0, .ref 64] _ _
                  obtain ⟨f1264, e1265⟩ := T1252.2.2.2.1 64 (by decide) (by decide)
                  refine rf_R_ist pm_M231 T1252 (pc_q := 89) rfl e1265 (by decide) (by decide) (sf_in Ba0 (by decide) (by decide)) ⟨_, rfl⟩ rfl (fun h1267 T1268 F1269 e1270 => ?_)
                  have F1271 := F1255.trans F1269 (by decide)
                  exact pm_R_ret pm_M231 (r := none) rfl rfl (K m w h1267 T1268 F1271 (rf_W.refl [] m))
  exact L_1095 _ 0 z4 (sf_weak sf_k0 (by decide) (by decide)) rfl
