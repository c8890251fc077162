set_option maxRecDepth 100000 in
set_option maxHeartbeats 4000000 in
/-- SilentTableModel.becomes -/
theorem rf_c288 {d : Nat} {m : Nat → Int32} {w : Int64} {h : pm_H} {Q : Option Value → pm_H → Prop} {a0 : Int32} {a1 : Int32} {a2 : Int32} (T : rf_T m w h)  (K : ∀ (r : Int32) (m' : Nat → Int32) (w' : Int64) (h' : pm_H), rf_T m' w' h' → rf_G [41, 53] h h' → rf_W [0, 23, 24, 26] m m' → sf_B (-1) 9 r → Q (some (.int r)) h') : pm_R (d + 3) 288 0 [.ref 41, .int a0, .int a1, .int a2, pm_no, pm_no, pm_no] [] h Q := by
  refine pm_R_lo pm_M288 (pc' := 1) rfl rfl rfl ?_
  refine pm_R_op pm_M288 (pc' := 2) (st' := [.int 0, .ref 41]) rfl rfl rfl ?_
  refine rf_R_put pm_M288 T (pc' := 5) rfl rfl rfl (by decide) rfl rfl sf_k0 rfl rfl (fun h1 m4 em5 T2 F3 => ?_)
  have F6 := (rf_G.refl [41, 53] h).trans F3 (by decide)
  have B7 : sf_B 0 0 (m4 0) := by rw [em5]; exact sf_k0
  have W9 : rf_W [0, 23, 24, 26] m m4 := by rw [em5]; exact (rf_W.refl [0, 23, 24, 26] m).put (by decide)
  refine pm_R_lo pm_M288 (pc' := 6) rfl rfl rfl ?_
  refine pm_R_op pm_M288 (pc' := 7) (st' := [.int 1, .ref 41]) rfl rfl rfl ?_
  refine pm_R_lo pm_M288 (pc' := 8) rfl rfl rfl ?_
  refine pm_R_cv pm_M288 (pc' := 11) (a := 41) (ra := [.int a2, .int 1]) (rest := []) (ls' := [.ref 41, .int 1, .int a2]) rfl rfl (Or.inl rfl) pm_M177 T2.2.1 rfl (by decide) (Nat.lt_of_lt_of_le (by decide) T2.1) rfl rfl (Nat.le_of_ble_eq_true rfl) rfl rfl ?_
  refine pm_R_lo pm_M177 (pc' := 1) rfl rfl rfl ?_
  refine pm_R_op pm_M177 (pc' := 2) (st' := [.int 0, .int a2]) rfl rfl rfl ?_
  refine pm_R_lo pm_M177 (pc' := 3) rfl rfl rfl ?_
  refine rf_R_get pm_M177 T2 (pc' := 6) (v := .ref 46) rfl rfl rfl rfl ?_
  refine pm_R_lo pm_M177 (pc' := 7) rfl rfl rfl ?_
  obtain ⟨f10, e11, b12⟩ := T2.2.2.2.1 46 (by decide) (by decide)
  refine rf_R_ild pm_M177 T2 (pc' := 8) rfl e11 (by decide) rfl rfl (fun z13 ez14 => ?_)
  have B15 : sf_B 0 3 z13 := ez14 ▸ (b12 1)
  refine pm_R_op pm_M177 (pc' := 9) (st' := [.int 1, .int z13, .int 0, .int a2]) rfl rfl rfl ?_
  refine sf_R_isub pm_M177 (pc' := 10) rfl rfl B15 sf_k1 (by decide) (by decide) (fun z16 e17 B18 => ?_)
  refine pm_R_cs pm_M177 (pc' := 13) (ra := [.int z16, .int 0, .int a2]) (rest := []) (ls' := [.int a2, .int 0, .int z16]) rfl rfl (Or.inl rfl) pm_M174 rfl rfl (Nat.le_of_ble_eq_true rfl) rfl rfl ?_
  refine pm_R_lo pm_M174 (pc' := 1) rfl rfl rfl ?_
  refine pm_R_lo pm_M174 (pc' := 2) rfl rfl rfl ?_
  refine pm_R_icmp pm_M174 (t := 14) (pc' := 5) rfl rfl rfl (fun c19 => ?_) (fun c19 => ?_)
  · have B20 : sf_B (-2147483648) (-1) a2 := sf_ltL c19 (sf_any a2) sf_k0
    refine pm_R_op pm_M174 (pc' := 15) (st' := [.int 0]) rfl rfl rfl ?_
    refine pm_R_ret pm_M174 (r := some (.int 0)) rfl rfl ?_
    show pm_R _ 177 13 [.ref 41, .int 1, .int a2] [.int 0] _ _
    refine pm_R_ret pm_M177 (r := some (.int 0)) rfl rfl ?_
    show pm_R _ 288 11 [.ref 41, .int a0, .int a1, .int a2, pm_no, pm_no, pm_no] [.int 0] _ _
    refine pm_R_br pm_M288 (pc' := 39) (st' := []) rfl rfl ?_
    refine pm_R_op pm_M288 (pc' := 40) (st' := [.int (-1)]) rfl rfl rfl ?_
    exact pm_R_ret pm_M288 (r := some (.int (-1))) rfl rfl (K (-1) m4 w h1 T2 F6 W9 (sf_weak sf_kn1 (by decide) (by decide)))
  · have B21 : sf_B 0 2147483647 a2 := sf_leR (Int32.not_lt.mp c19) sf_k0 (sf_any a2)
    refine pm_R_lo pm_M174 (pc' := 6) rfl rfl rfl ?_
    refine pm_R_lo pm_M174 (pc' := 7) rfl rfl rfl ?_
    refine pm_R_icmp pm_M174 (t := 14) (pc' := 10) rfl rfl rfl (fun c22 => ?_) (fun c22 => ?_)
    · skip
      refine pm_R_op pm_M174 (pc' := 15) (st' := [.int 0]) rfl rfl rfl ?_
      refine pm_R_ret pm_M174 (r := some (.int 0)) rfl rfl ?_
      show pm_R _ 177 13 [.ref 41, .int 1, .int a2] [.int 0] _ _
      refine pm_R_ret pm_M177 (r := some (.int 0)) rfl rfl ?_
      show pm_R _ 288 11 [.ref 41, .int a0, .int a1, .int a2, pm_no, pm_no, pm_no] [.int 0] _ _
      refine pm_R_br pm_M288 (pc' := 39) (st' := []) rfl rfl ?_
      refine pm_R_op pm_M288 (pc' := 40) (st' := [.int (-1)]) rfl rfl rfl ?_
      exact pm_R_ret pm_M288 (r := some (.int (-1))) rfl rfl (K (-1) m4 w h1 T2 F6 W9 (sf_weak sf_kn1 (by decide) (by decide)))
    · have V23 := rf_V.mk e11 ez14 e17 (Int32.not_lt.mp c22) B21 (by decide)
      have V23 := V23.back F6 (by decide)
      have B24 : sf_B 0 2 a2 := sf_leL (Int32.not_lt.mp c22) B21 B18
      have B25 : sf_B 0 2 z16 := sf_leR (Int32.not_lt.mp c22) B21 B18
      refine pm_R_op pm_M174 (pc' := 11) (st' := [.int 1]) rfl rfl rfl ?_
      refine pm_R_br pm_M174 (pc' := 15) rfl rfl ?_
      refine pm_R_ret pm_M174 (r := some (.int 1)) rfl rfl ?_
      show pm_R _ 177 13 [.ref 41, .int 1, .int a2] [.int 1] _ _
      refine pm_R_ret pm_M177 (r := some (.int 1)) rfl rfl ?_
      show pm_R _ 288 11 [.ref 41, .int a0, .int a1, .int a2, pm_no, pm_no, pm_no] [.int 1] _ _
      refine pm_R_br pm_M288 (pc' := 14) (st' := []) rfl rfl ?_
      refine pm_R_lo pm_M288 (pc' := 15) rfl rfl rfl ?_
      refine pm_R_lo pm_M288 (pc' := 16) rfl rfl rfl ?_
      refine pm_R_lo pm_M288 (pc' := 17) rfl rfl rfl ?_
      refine pm_R_cv pm_M288 (pc' := 20) (a := 41) (ra := [.int a1, .int a0]) (rest := []) (ls' := [.ref 41, .int a0, .int a1]) rfl rfl (Or.inl rfl) pm_M200 T2.2.1 rfl (by decide) (Nat.lt_of_lt_of_le (by decide) T2.1) rfl rfl (Nat.le_of_ble_eq_true rfl) rfl rfl ?_
      refine pm_R_lo pm_M200 (pc' := 1) rfl rfl rfl ?_
      refine pm_R_op pm_M200 (pc' := 2) (st' := [.int 0, .ref 41]) rfl rfl rfl ?_
      refine pm_R_lo pm_M200 (pc' := 3) rfl rfl rfl ?_
      refine pm_R_cv pm_M200 (pc' := 6) (a := 41) (ra := [.int a0, .int 0]) (rest := []) (ls' := [.ref 41, .int 0, .int a0]) rfl rfl (Or.inl rfl) pm_M177 T2.2.1 rfl (by decide) (Nat.lt_of_lt_of_le (by decide) T2.1) rfl rfl (Nat.le_of_ble_eq_true rfl) rfl rfl ?_
      refine pm_R_lo pm_M177 (pc' := 1) rfl rfl rfl ?_
      refine pm_R_op pm_M177 (pc' := 2) (st' := [.int 0, .int a0]) rfl rfl rfl ?_
      refine pm_R_lo pm_M177 (pc' := 3) rfl rfl rfl ?_
      refine rf_R_get pm_M177 T2 (pc' := 6) (v := .ref 46) rfl rfl rfl rfl ?_
      refine pm_R_lo pm_M177 (pc' := 7) rfl rfl rfl ?_
      refine rf_R_ild pm_M177 T2 (pc' := 8) rfl e11 (by decide) rfl rfl (fun z26 ez27 => ?_)
      have B28 : sf_B 0 2 z26 := ez27 ▸ (b12 0)
      refine pm_R_op pm_M177 (pc' := 9) (st' := [.int 1, .int z26, .int 0, .int a0]) rfl rfl rfl ?_
      refine sf_R_isub pm_M177 (pc' := 10) rfl rfl B28 sf_k1 (by decide) (by decide) (fun z29 e30 B31 => ?_)
      refine pm_R_cs pm_M177 (pc' := 13) (ra := [.int z29, .int 0, .int a0]) (rest := []) (ls' := [.int a0, .int 0, .int z29]) rfl rfl (Or.inl rfl) pm_M174 rfl rfl (Nat.le_of_ble_eq_true rfl) rfl rfl ?_
      refine pm_R_lo pm_M174 (pc' := 1) rfl rfl rfl ?_
      refine pm_R_lo pm_M174 (pc' := 2) rfl rfl rfl ?_
      refine pm_R_icmp pm_M174 (t := 14) (pc' := 5) rfl rfl rfl (fun c32 => ?_) (fun c32 => ?_)
      · have B33 : sf_B (-2147483648) (-1) a0 := sf_ltL c32 (sf_any a0) sf_k0
        refine pm_R_op pm_M174 (pc' := 15) (st' := [.int 0]) rfl rfl rfl ?_
        refine pm_R_ret pm_M174 (r := some (.int 0)) rfl rfl ?_
        show pm_R _ 177 13 [.ref 41, .int 0, .int a0] [.int 0] _ _
        refine pm_R_ret pm_M177 (r := some (.int 0)) rfl rfl ?_
        show pm_R _ 200 6 [.ref 41, .int a0, .int a1] [.int 0] _ _
        refine pm_R_br pm_M200 (pc' := 18) (st' := []) rfl rfl ?_
        refine pm_R_op pm_M200 (pc' := 19) (st' := [.int 0]) rfl rfl rfl ?_
        refine pm_R_ret pm_M200 (r := some (.int 0)) rfl rfl ?_
        show pm_R _ 288 20 [.ref 41, .int a0, .int a1, .int a2, pm_no, pm_no, pm_no] [.int 0] _ _
        refine pm_R_br pm_M288 (pc' := 39) (st' := []) rfl rfl ?_
        refine pm_R_op pm_M288 (pc' := 40) (st' := [.int (-1)]) rfl rfl rfl ?_
        exact pm_R_ret pm_M288 (r := some (.int (-1))) rfl rfl (K (-1) m4 w h1 T2 F6 W9 (sf_weak sf_kn1 (by decide) (by decide)))
      · have B34 : sf_B 0 2147483647 a0 := sf_leR (Int32.not_lt.mp c32) sf_k0 (sf_any a0)
        refine pm_R_lo pm_M174 (pc' := 6) rfl rfl rfl ?_
        refine pm_R_lo pm_M174 (pc' := 7) rfl rfl rfl ?_
        refine pm_R_icmp pm_M174 (t := 14) (pc' := 10) rfl rfl rfl (fun c35 => ?_) (fun c35 => ?_)
        · skip
          refine pm_R_op pm_M174 (pc' := 15) (st' := [.int 0]) rfl rfl rfl ?_
          refine pm_R_ret pm_M174 (r := some (.int 0)) rfl rfl ?_
          show pm_R _ 177 13 [.ref 41, .int 0, .int a0] [.int 0] _ _
          refine pm_R_ret pm_M177 (r := some (.int 0)) rfl rfl ?_
          show pm_R _ 200 6 [.ref 41, .int a0, .int a1] [.int 0] _ _
          refine pm_R_br pm_M200 (pc' := 18) (st' := []) rfl rfl ?_
          refine pm_R_op pm_M200 (pc' := 19) (st' := [.int 0]) rfl rfl rfl ?_
          refine pm_R_ret pm_M200 (r := some (.int 0)) rfl rfl ?_
          show pm_R _ 288 20 [.ref 41, .int a0, .int a1, .int a2, pm_no, pm_no, pm_no] [.int 0] _ _
          refine pm_R_br pm_M288 (pc' := 39) (st' := []) rfl rfl ?_
          refine pm_R_op pm_M288 (pc' := 40) (st' := [.int (-1)]) rfl rfl rfl ?_
          exact pm_R_ret pm_M288 (r := some (.int (-1))) rfl rfl (K (-1) m4 w h1 T2 F6 W9 (sf_weak sf_kn1 (by decide) (by decide)))
        · have B36 : sf_B 0 1 a0 := sf_leL (Int32.not_lt.mp c35) B34 B31
          have B37 : sf_B 0 1 z29 := sf_leR (Int32.not_lt.mp c35) B34 B31
          refine pm_R_op pm_M174 (pc' := 11) (st' := [.int 1]) rfl rfl rfl ?_
          refine pm_R_br pm_M174 (pc' := 15) rfl rfl ?_
          refine pm_R_ret pm_M174 (r := some (.int 1)) rfl rfl ?_
          show pm_R _ 177 13 [.ref 41, .int 0, .int a0] [.int 1] _ _
          refine pm_R_ret pm_M177 (r := some (.int 1)) rfl rfl ?_
          show pm_R _ 200 6 [.ref 41, .int a0, .int a1] [.int 1] _ _
          refine pm_R_br pm_M200 (pc' := 9) (st' := []) rfl rfl ?_
          refine pm_R_lo pm_M200 (pc' := 10) rfl rfl rfl ?_
          refine pm_R_op pm_M200 (pc' := 11) (st' := [.int 1, .ref 41]) rfl rfl rfl ?_
          refine pm_R_lo pm_M200 (pc' := 12) rfl rfl rfl ?_
          refine pm_R_cv pm_M200 (pc' := 15) (a := 41) (ra := [.int a1, .int 1]) (rest := []) (ls' := [.ref 41, .int 1, .int a1]) rfl rfl (Or.inl rfl) pm_M177 T2.2.1 rfl (by decide) (Nat.lt_of_lt_of_le (by decide) T2.1) rfl rfl (Nat.le_of_ble_eq_true rfl) rfl rfl ?_
          refine pm_R_lo pm_M177 (pc' := 1) rfl rfl rfl ?_
          refine pm_R_op pm_M177 (pc' := 2) (st' := [.int 0, .int a1]) rfl rfl rfl ?_
          refine pm_R_lo pm_M177 (pc' := 3) rfl rfl rfl ?_
          refine rf_R_get pm_M177 T2 (pc' := 6) (v := .ref 46) rfl rfl rfl rfl ?_
          refine pm_R_lo pm_M177 (pc' := 7) rfl rfl rfl ?_
          refine pm_R_iald pm_M177 (pc' := 8) (v := z13) rfl e11 (Nat.lt_of_lt_of_le (by decide) T2.1) rfl ez14 rfl ?_
          refine pm_R_op pm_M177 (pc' := 9) (st' := [.int 1, .int z13, .int 0, .int a1]) rfl rfl rfl ?_
          refine sf_R_isubV pm_M177 (pc' := 10) rfl rfl B15 sf_k1 (by decide) (by decide) e17 ?_
          refine pm_R_cs pm_M177 (pc' := 13) (ra := [.int z16, .int 0, .int a1]) (rest := []) (ls' := [.int a1, .int 0, .int z16]) rfl rfl (Or.inl rfl) pm_M174 rfl rfl (Nat.le_of_ble_eq_true rfl) rfl rfl ?_
          refine pm_R_lo pm_M174 (pc' := 1) rfl rfl rfl ?_
          refine pm_R_lo pm_M174 (pc' := 2) rfl rfl rfl ?_
          refine pm_R_icmp pm_M174 (t := 14) (pc' := 5) rfl rfl rfl (fun c40 => ?_) (fun c40 => ?_)
          · have B41 : sf_B (-2147483648) (-1) a1 := sf_ltL c40 (sf_any a1) sf_k0
            refine pm_R_op pm_M174 (pc' := 15) (st' := [.int 0]) rfl rfl rfl ?_
            refine pm_R_ret pm_M174 (r := some (.int 0)) rfl rfl ?_
            show pm_R _ 177 13 [.ref 41, .int 1, .int a1] [.int 0] _ _
            refine pm_R_ret pm_M177 (r := some (.int 0)) rfl rfl ?_
            show pm_R _ 200 15 [.ref 41, .int a0, .int a1] [.int 0] _ _
            refine pm_R_br pm_M200 (pc' := 18) (st' := []) rfl rfl ?_
            refine pm_R_op pm_M200 (pc' := 19) (st' := [.int 0]) rfl rfl rfl ?_
            refine pm_R_ret pm_M200 (r := some (.int 0)) rfl rfl ?_
            show pm_R _ 288 20 [.ref 41, .int a0, .int a1, .int a2, pm_no, pm_no, pm_no] [.int 0] _ _
            refine pm_R_br pm_M288 (pc' := 39) (st' := []) rfl rfl ?_
            refine pm_R_op pm_M288 (pc' := 40) (st' := [.int (-1)]) rfl rfl rfl ?_
            exact pm_R_ret pm_M288 (r := some (.int (-1))) rfl rfl (K (-1) m4 w h1 T2 F6 W9 (sf_weak sf_kn1 (by decide) (by decide)))
          · have B42 : sf_B 0 2147483647 a1 := sf_leR (Int32.not_lt.mp c40) sf_k0 (sf_any a1)
            refine pm_R_lo pm_M174 (pc' := 6) rfl rfl rfl ?_
            refine pm_R_lo pm_M174 (pc' := 7) rfl rfl rfl ?_
            refine pm_R_icmp pm_M174 (t := 14) (pc' := 10) rfl rfl rfl (fun c43 => ?_) (fun c43 => ?_)
            · have B44 : sf_B 1 2147483647 a1 := sf_ltR c43 B25 B42
              refine pm_R_op pm_M174 (pc' := 15) (st' := [.int 0]) rfl rfl rfl ?_
              refine pm_R_ret pm_M174 (r := some (.int 0)) rfl rfl ?_
              show pm_R _ 177 13 [.ref 41, .int 1, .int a1] [.int 0] _ _
              refine pm_R_ret pm_M177 (r := some (.int 0)) rfl rfl ?_
              show pm_R _ 200 15 [.ref 41, .int a0, .int a1] [.int 0] _ _
              refine pm_R_br pm_M200 (pc' := 18) (st' := []) rfl rfl ?_
              refine pm_R_op pm_M200 (pc' := 19) (st' := [.int 0]) rfl rfl rfl ?_
              refine pm_R_ret pm_M200 (r := some (.int 0)) rfl rfl ?_
              show pm_R _ 288 20 [.ref 41, .int a0, .int a1, .int a2, pm_no, pm_no, pm_no] [.int 0] _ _
              refine pm_R_br pm_M288 (pc' := 39) (st' := []) rfl rfl ?_
              refine pm_R_op pm_M288 (pc' := 40) (st' := [.int (-1)]) rfl rfl rfl ?_
              exact pm_R_ret pm_M288 (r := some (.int (-1))) rfl rfl (K (-1) m4 w h1 T2 F6 W9 (sf_weak sf_kn1 (by decide) (by decide)))
            · have V45 := rf_V.mk e11 ez14 e17 (Int32.not_lt.mp c43) B42 (by decide)
              have V45 := V45.back F6 (by decide)
              have B46 : sf_B 0 2 a1 := sf_leL (Int32.not_lt.mp c43) B42 B25
              refine pm_R_op pm_M174 (pc' := 11) (st' := [.int 1]) rfl rfl rfl ?_
              refine pm_R_br pm_M174 (pc' := 15) rfl rfl ?_
              refine pm_R_ret pm_M174 (r := some (.int 1)) rfl rfl ?_
              show pm_R _ 177 13 [.ref 41, .int 1, .int a1] [.int 1] _ _
              refine pm_R_ret pm_M177 (r := some (.int 1)) rfl rfl ?_
              show pm_R _ 200 15 [.ref 41, .int a0, .int a1] [.int 1] _ _
              refine pm_R_br pm_M200 (pc' := 20) (st' := []) rfl rfl ?_
              refine pm_R_lo pm_M200 (pc' := 21) rfl rfl rfl ?_
              refine pm_R_lo pm_M200 (pc' := 22) rfl rfl rfl ?_
              refine pm_R_lo pm_M200 (pc' := 23) rfl rfl rfl ?_
              refine pm_R_cv pm_M200 (pc' := 26) (a := 41) (ra := [.int a1, .int a0]) (rest := []) (ls' := [.ref 41, .int a0, .int a1, pm_no]) rfl rfl (Or.inl rfl) pm_M201 T2.2.1 rfl (by decide) (Nat.lt_of_lt_of_le (by decide) T2.1) rfl rfl (Nat.le_of_ble_eq_true rfl) rfl rfl ?_
              refine rf_c201 (d := d + 1) T2 B36 B46 (V45.F F6 (by decide)) (fun m49 w50 h51 T52 F53 W54 X55 B56 => ?_)
              have F57 := F6.trans F53 (by decide)
              have W58 : rf_W [0, 23, 24, 26] m m49 := W9.trans W54 (by decide)
              show pm_R _ 200 26 [.ref 41, .int a0, .int a1] [] _ _
              refine pm_R_op pm_M200 (pc' := 27) (st' := [.int 1]) rfl rfl rfl ?_
              refine pm_R_ret pm_M200 (r := some (.int 1)) rfl rfl ?_
              show pm_R _ 288 20 [.ref 41, .int a0, .int a1, .int a2, pm_no, pm_no, pm_no] [.int 1] _ _
              refine pm_R_br pm_M288 (pc' := 23) (st' := []) rfl rfl ?_
              refine pm_R_lo pm_M288 (pc' := 24) rfl rfl rfl ?_
              refine rf_R_get pm_M288 T52 (pc' := 27) (v := .ref 48) rfl rfl rfl rfl ?_
              refine pm_R_op pm_M288 (pc' := 29) (st' := [.int 13, .ref 48]) rfl rfl rfl ?_
              refine pm_R_lo pm_M288 (pc' := 30) rfl rfl rfl ?_
              refine sf_R_imul pm_M288 (pc' := 31) rfl rfl sf_k13 B24 (by decide) (by decide) (by decide) (fun z59 e60 B61 => ?_)
              obtain ⟨f62, e63, b64⟩ := T52.2.2.2.1 48 (by decide) (by decide)
              refine rf_R_ild pm_M288 T52 (pc' := 32) rfl e63 (by decide) (sf_in B61 (by decide) (by decide)) rfl (fun z65 ez66 => ?_)
              have e67 : (z59).toInt = 13 * (a2).toInt + 0 := (sf_aux13 _ _ e60)
              have B68 : sf_B 1 12 z65 := ez66 ▸ rf_p48v T52 e63 (V23.F F57 (by decide)) e67
              refine pm_R_lo pm_M288 (pc' := 33) rfl rfl rfl ?_
              refine rf_R_get pm_M288 T52 (pc' := 36) (v := .int (m49 24)) rfl rfl rfl rfl ?_
              refine pm_R_icmp pm_M288 (t := 41) (pc' := 39) rfl rfl rfl (fun c69 => ?_) (fun c69 => ?_)
              · refine pm_R_op pm_M288 (pc' := 42) (st' := [.int 0]) rfl rfl rfl ?_
                refine pm_R_lo pm_M288 (pc' := 44) (ls' := [.ref 41, .int a0, .int a1, .int a2, .int 0, pm_no, pm_no]) (st' := []) rfl rfl rfl ?_
                have L_2126 : ∀ (N : Nat) (h_2126 : pm_H) (m_2126 : Nat → Int32) (w_2126 : Int64) (x4_2126 : Int32) (g5_2126 : Value) (g6_2126 : Value), rf_T m_2126 w_2126 h_2126 → rf_G [41, 53] h h_2126 → rf_W [] m49 m_2126 → sf_B 0 10 x4_2126 → g5_2126.category = 1 → g6_2126.category = 1 → (10 - x4_2126.toInt).toNat = N → pm_R (d + 3) 288 44 [.ref 41, .int a0, .int a1, .int a2, .int x4_2126, g5_2126, g6_2126] [] h_2126 Q := by
                  intro N
                  induction N using Nat.strongRecOn with
                  | ind N ih_2126 =>
                    intro h_2126 m_2126 w_2126 x4_2126 g5_2126 g6_2126 T_2126 F_2126 W_2126 Bx4_2126 Cg5_2126 Cg6_2126 hN_2126
                    have B2129 : sf_B 1 12 (m_2126 24) := by rw [W_2126 24 (by decide)]; exact B56
                    have W2130 : rf_W [0, 23, 24, 26] m m_2126 := W58.trans W_2126 (by decide)
                    refine pm_R_lo pm_M288 (pc' := 46) rfl rfl rfl ?_
                    refine pm_R_op pm_M288 (pc' := 48) (st' := [.int 9, .int x4_2126]) rfl rfl rfl ?_
                    refine pm_R_icmp pm_M288 (t := 131) (pc' := 51) rfl rfl rfl (fun c2131 => ?_) (fun c2131 => ?_)
                    · have B2132 : sf_B 10 10 x4_2126 := sf_ltR c2131 sf_k9 Bx4_2126
                      refine pm_R_op pm_M288 (pc' := 132) (st' := [.int (-1)]) (pm_q288_1 (Nat.le_of_ble_eq_true rfl)) rfl rfl ?_
                      exact pm_R_ret pm_M288 (r := some (.int (-1))) (pm_q288_1 (Nat.le_of_ble_eq_true rfl)) rfl (K (-1) m_2126 w_2126 h_2126 T_2126 F_2126 W2130 (sf_weak sf_kn1 (by decide) (by decide)))
                    · have B2133 : sf_B 0 9 x4_2126 := sf_leL (Int32.not_lt.mp c2131) Bx4_2126 sf_k9
                      refine pm_R_op pm_M288 (pc' := 52) (st' := [.int 1]) rfl rfl rfl ?_
                      refine pm_R_lo pm_M288 (pc' := 54) (ls' := [.ref 41, .int a0, .int a1, .int a2, .int x4_2126, .int 1, g6_2126]) (st' := []) rfl rfl rfl ?_
                      refine pm_R_op pm_M288 (pc' := 55) (st' := [.int 0]) rfl rfl rfl ?_
                      refine pm_R_lo pm_M288 (pc' := 57) (ls' := [.ref 41, .int a0, .int a1, .int a2, .int x4_2126, .int 1, .int 0]) (st' := []) rfl rfl rfl ?_
                      have L_2475 : ∀ (N : Nat) (x5_2475 : Int32) (x6_2475 : Int32), sf_B 0 1 x5_2475 → sf_B 0 12 x6_2475 → (12 - x6_2475.toInt).toNat = N → pm_R (d + 3) 288 57 [.ref 41, .int a0, .int a1, .int a2, .int x4_2126, .int x5_2475, .int x6_2475] [] h_2126 Q := by
                        intro N
                        induction N using Nat.strongRecOn with
                        | ind N ih_2475 =>
                          intro x5_2475 x6_2475 Bx5_2475 Bx6_2475 hN_2475
                          refine pm_R_lo pm_M288 (pc' := 59) rfl rfl rfl ?_
                          refine pm_R_lo pm_M288 (pc' := 60) rfl rfl rfl ?_
                          refine rf_R_get pm_M288 T_2126 (pc' := 63) (v := .int (m_2126 24)) rfl rfl rfl rfl ?_
                          refine pm_R_icmp pm_M288 (t := 112) (pc' := 66) rfl rfl rfl (fun c2476 => ?_) (fun c2476 => ?_)
                          · have B2477 : sf_B 1 12 x6_2475 := sf_leR c2476 B2129 Bx6_2475
                            refine pm_R_lo pm_M288 (pc' := 114) (pm_q288_1 (Nat.le_of_ble_eq_true rfl)) rfl rfl ?_
                            refine pm_R_ifc pm_M288 (t := 120) (pc' := 117) (pm_q288_1 (Nat.le_of_ble_eq_true rfl)) rfl rfl (fun c2478 => ?_) (fun c2478 => ?_)
                            · have B2479 : sf_B 0 0 x5_2475 := sf_eqL c2478 sf_k0
                              refine pm_R_lo pm_M288 (pc' := 121) (pm_q288_1 (Nat.le_of_ble_eq_true rfl)) rfl rfl ?_
                              refine pm_R_op pm_M288 (pc' := 122) (st' := [.int 1, .ref 41]) (pm_q288_1 (Nat.le_of_ble_eq_true rfl)) rfl rfl ?_
                              refine pm_R_cv pm_M288 (pc' := 125) (a := 41) (ra := [.int 1]) (rest := []) (ls' := [.ref 41, .int 1, pm_no, pm_no, pm_no, pm_no]) (pm_q288_1 (Nat.le_of_ble_eq_true rfl)) rfl (Or.inl rfl) pm_M235 T_2126.2.1 rfl (by decide) (Nat.lt_of_lt_of_le (by decide) T_2126.1) rfl rfl (Nat.le_of_ble_eq_true rfl) rfl rfl ?_
                              refine rf_c235 (d := d + 1) T_2126 (sf_weak sf_k1 (by decide) (by decide)) (fun m2482 w2483 h2484 T2485 F2486 W2487 => ?_)
                              have F2488 := F_2126.trans F2486 (by decide)
                              have B2489 : sf_B 1 12 (m2482 24) := by rw [W2487 24 (by decide)]; exact B2129
                              have W2490 : rf_W [0, 23, 24, 26] m m2482 := W2130.trans W2487 (by decide)
                              have W2491 : rf_W [] m49 m2482 := W_2126.trans W2487 (by decide)
                              show pm_R _ 288 125 [.ref 41, .int a0, .int a1, .int a2, .int x4_2126, .int x5_2475, .int x6_2475] [] _ _
                              refine sf_R_iinc pm_M288 (pc' := 128) (ls' := fun z => [.ref 41, .int a0, .int a1, .int a2, .int z, .int x5_2475, .int x6_2475]) (pm_q288_1 (Nat.le_of_ble_eq_true rfl)) B2133 rfl (by decide) (by decide) (by decide) (fun _ => rfl) rfl (fun z2492 e2493 B2494 => ?_)
                              show pm_R _ 288 128 [.ref 41, .int a0, .int a1, .int a2, .int z2492, .int x5_2475, .int x6_2475] [] _ _
                              refine pm_R_br pm_M288 (pc' := 44) (pm_q288_1 (Nat.le_of_ble_eq_true rfl)) rfl ?_
                              exact ih_2126 _ (sf_up hN_2126 e2493 B2133 (by decide) (by decide)) h2484 m2482 w2483 z2492 (.int x5_2475) (.int x6_2475) T2485 F2488 W2491 (sf_weak B2494 (by decide) (by decide)) rfl rfl rfl
                            · have B2495 : sf_B 1 1 x5_2475 := sf_neL0 c2478 sf_k0 Bx5_2475
                              refine pm_R_lo pm_M288 (pc' := 119) (pm_q288_1 (Nat.le_of_ble_eq_true rfl)) rfl rfl ?_
                              exact pm_R_ret pm_M288 (r := some (.int x4_2126)) (pm_q288_1 (Nat.le_of_ble_eq_true rfl)) (pm_ret_i _) (K x4_2126 m_2126 w_2126 h_2126 T_2126 F_2126 W2130 (sf_weak B2133 (by decide) (by decide)))
                          · have B2496 : sf_B 0 11 x6_2475 := sf_ltL (Int32.not_le.mp c2476) Bx6_2475 B2129
                            refine pm_R_lo pm_M288 (pc' := 68) rfl rfl rfl ?_
                            refine pm_R_ifc pm_M288 (t := 103) (pc' := 71) rfl rfl rfl (fun c2497 => ?_) (fun c2497 => ?_)
                            · have B2498 : sf_B 0 0 x5_2475 := sf_eqL c2497 sf_k0
                              refine pm_R_op pm_M288 (pc' := 104) (st' := [.int 0]) rfl rfl rfl ?_
                              refine pm_R_lo pm_M288 (pc' := 106) (ls' := [.ref 41, .int a0, .int a1, .int a2, .int x4_2126, .int 0, .int x6_2475]) (st' := []) rfl rfl rfl ?_
                              refine sf_R_iinc pm_M288 (pc' := 109) (ls' := fun z => [.ref 41, .int a0, .int a1, .int a2, .int x4_2126, .int 0, .int z]) (pm_q288_1 (Nat.le_of_ble_eq_true rfl)) B2496 rfl (by decide) (by decide) (by decide) (fun _ => rfl) rfl (fun z2499 e2500 B2501 => ?_)
                              show pm_R _ 288 109 [.ref 41, .int a0, .int a1, .int a2, .int x4_2126, .int 0, .int z2499] [] _ _
                              refine pm_R_br pm_M288 (pc' := 57) (pm_q288_1 (Nat.le_of_ble_eq_true rfl)) rfl ?_
                              exact ih_2475 _ (sf_up hN_2475 e2500 B2496 (by decide) (by decide)) 0 z2499 (sf_weak sf_k0 (by decide) (by decide)) (sf_weak B2501 (by decide) (by decide)) rfl
                            · have B2502 : sf_B 1 1 x5_2475 := sf_neL0 c2497 sf_k0 Bx5_2475
                              refine pm_R_lo pm_M288 (pc' := 72) rfl rfl rfl ?_
                              refine rf_R_get pm_M288 T_2126 (pc' := 75) (v := .ref 53) rfl rfl rfl rfl ?_
                              refine pm_R_lo pm_M288 (pc' := 77) rfl rfl rfl ?_
                              obtain ⟨f2503, e2504⟩ := T_2126.2.2.2.1 53 (by decide) (by decide)
                              refine rf_R_ild pm_M288 T_2126 (pc' := 78) rfl e2504 (by decide) (sf_in B2496 (by decide) (by decide)) rfl (fun z2506 ez2507 => ?_)
                              refine sf_R_lany pm_M288 (pc' := 79) (st := []) rfl rfl rfl (fun z2508 => ?_)
                              refine pm_R_lo pm_M288 (pc' := 80) rfl rfl rfl ?_
                              refine rf_R_get pm_M288 T_2126 (pc' := 83) (v := .ref 48) rfl rfl rfl rfl ?_
                              refine pm_R_op pm_M288 (pc' := 85) (st' := [.int 13, .ref 48, .long z2508]) rfl rfl rfl ?_
                              refine pm_R_lo pm_M288 (pc' := 86) rfl rfl rfl ?_
                              refine sf_R_imulV pm_M288 (pc' := 87) rfl rfl sf_k13 B24 (by decide) (by decide) (by decide) e60 ?_
                              refine pm_R_op pm_M288 (pc' := 88) (st' := [.int 1, .int z59, .ref 48, .long z2508]) rfl rfl rfl ?_
                              refine sf_R_iadd pm_M288 (pc' := 89) rfl rfl B61 sf_k1 (by decide) (by decide) (fun z2509 e2510 B2511 => ?_)
                              refine pm_R_lo pm_M288 (pc' := 91) rfl rfl rfl ?_
                              refine sf_R_iadd pm_M288 (pc' := 92) rfl rfl B2511 B2496 (by decide) (by decide) (fun z2512 e2513 B2514 => ?_)
                              obtain ⟨f2515, e2516, b2517⟩ := T_2126.2.2.2.1 48 (by decide) (by decide)
                              refine rf_R_ild pm_M288 T_2126 (pc' := 93) rfl e2516 (by decide) (sf_in B2514 (by decide) (by decide)) rfl (fun z2518 ez2519 => ?_)
                              have e2520 : (z2512).toInt = 13 * (a2).toInt + 1 * (x6_2475).toInt + 1 := (sf_aux14 _ _ _ _ _ e60 e2510 e2513)
                              have B2521 : sf_B 0 9 z2518 := ez2519 ▸ rf_p48s b2517 e2520 B24 B2496 (by decide) (by decide) (by decide)
                              refine pm_R_cs pm_M288 (pc' := 96) (ra := [.int z2518, .long z2508]) (rest := []) (ls' := [.long z2508, pm_no, .int z2518]) rfl rfl (Or.inl rfl) pm_M206 rfl rfl (Nat.le_of_ble_eq_true rfl) rfl rfl ?_
                              refine pm_R_lo pm_M206 (pc' := 1) rfl rfl rfl ?_
                              refine pm_R_lo pm_M206 (pc' := 2) rfl rfl rfl ?_
                              refine sf_R_lany pm_M206 (pc' := 3) (st := []) rfl rfl rfl (fun z2522 => ?_)
                              refine pm_R_op pm_M206 (pc' := 4) (st' := [.long 1, .long z2522]) rfl rfl rfl ?_
                              refine sf_R_lany pm_M206 (pc' := 5) (st := []) rfl rfl rfl (fun z2523 => ?_)
                              refine pm_R_op pm_M206 (pc' := 6) (st' := [.long 1, .long z2523]) rfl rfl rfl ?_
                              refine sf_R_lcmp pm_M206 (pc' := 7) rfl rfl (fun z2524 e2525 => ?_)
                              refine pm_R_ifc pm_M206 (t := 14) (pc' := 10) rfl rfl rfl (fun c2526 => ?_) (fun c2526 => ?_)
                              · have k2527 := sf_lneC e2525 c2526
                                refine pm_R_op pm_M206 (pc' := 15) (st' := [.int 0]) rfl rfl rfl ?_
                                refine pm_R_ret pm_M206 (r := some (.int 0)) rfl rfl ?_
                                show pm_R _ 288 96 [.ref 41, .int a0, .int a1, .int a2, .int x4_2126, .int x5_2475, .int x6_2475] [.int 0] _ _
                                refine pm_R_br pm_M288 (pc' := 103) (st' := []) rfl rfl ?_
                                refine pm_R_op pm_M288 (pc' := 104) (st' := [.int 0]) rfl rfl rfl ?_
                                refine pm_R_lo pm_M288 (pc' := 106) (ls' := [.ref 41, .int a0, .int a1, .int a2, .int x4_2126, .int 0, .int x6_2475]) (st' := []) rfl rfl rfl ?_
                                refine sf_R_iinc pm_M288 (pc' := 109) (ls' := fun z => [.ref 41, .int a0, .int a1, .int a2, .int x4_2126, .int 0, .int z]) (pm_q288_1 (Nat.le_of_ble_eq_true rfl)) B2496 rfl (by decide) (by decide) (by decide) (fun _ => rfl) rfl (fun z2528 e2529 B2530 => ?_)
                                show pm_R _ 288 109 [.ref 41, .int a0, .int a1, .int a2, .int x4_2126, .int 0, .int z2528] [] _ _
                                refine pm_R_br pm_M288 (pc' := 57) (pm_q288_1 (Nat.le_of_ble_eq_true rfl)) rfl ?_
                                exact ih_2475 _ (sf_up hN_2475 e2529 B2496 (by decide) (by decide)) 0 z2528 (sf_weak sf_k0 (by decide) (by decide)) (sf_weak B2530 (by decide) (by decide)) rfl
                              · have B2531 : sf_B 0 0 z2524 := sf_eqL (Classical.not_not.mp c2526) sf_k0
                                refine pm_R_op pm_M206 (pc' := 11) (st' := [.int 1]) rfl rfl rfl ?_
                                refine pm_R_br pm_M206 (pc' := 15) rfl rfl ?_
                                refine pm_R_ret pm_M206 (r := some (.int 1)) rfl rfl ?_
                                show pm_R _ 288 96 [.ref 41, .int a0, .int a1, .int a2, .int x4_2126, .int x5_2475, .int x6_2475] [.int 1] _ _
                                refine pm_R_br pm_M288 (pc' := 99) (st' := []) rfl rfl ?_
                                refine pm_R_op pm_M288 (pc' := 100) (st' := [.int 1]) rfl rfl rfl ?_
                                refine pm_R_br pm_M288 (pc' := 104) rfl rfl ?_
                                refine pm_R_lo pm_M288 (pc' := 106) (ls' := [.ref 41, .int a0, .int a1, .int a2, .int x4_2126, .int 1, .int x6_2475]) (st' := []) rfl rfl rfl ?_
                                refine sf_R_iinc pm_M288 (pc' := 109) (ls' := fun z => [.ref 41, .int a0, .int a1, .int a2, .int x4_2126, .int 1, .int z]) (pm_q288_1 (Nat.le_of_ble_eq_true rfl)) B2496 rfl (by decide) (by decide) (by decide) (fun _ => rfl) rfl (fun z2532 e2533 B2534 => ?_)
                                show pm_R _ 288 109 [.ref 41, .int a0, .int a1, .int a2, .int x4_2126, .int 1, .int z2532] [] _ _
                                refine pm_R_br pm_M288 (pc' := 57) (pm_q288_1 (Nat.le_of_ble_eq_true rfl)) rfl ?_
                                exact ih_2475 _ (sf_up hN_2475 e2533 B2496 (by decide) (by decide)) 1 z2532 (sf_weak sf_k1 (by decide) (by decide)) (sf_weak B2534 (by decide) (by decide)) rfl
                      exact L_2475 _ 1 0 (sf_weak sf_k1 (by decide) (by decide)) (sf_weak sf_k0 (by decide) (by decide)) rfl
                exact L_2126 _ h51 m49 w50 0 (pm_no) (pm_no) T52 F57 (rf_W.refl _ _) (sf_weak sf_k0 (by decide) (by decide)) rfl rfl rfl
              · skip
                refine pm_R_op pm_M288 (pc' := 40) (st' := [.int (-1)]) rfl rfl rfl ?_
                exact pm_R_ret pm_M288 (r := some (.int (-1))) rfl rfl (K (-1) m49 w50 h51 T52 F57 W58 (sf_weak sf_kn1 (by decide) (by decide)))

set_option maxRecDepth 100000 in
set_option maxHeartbeats 4000000 in
/-- SilentTableModel.can -/
theorem rf_c289 {d : Nat} {m : Nat → Int32} {w : Int64} {h : pm_H} {Q : Option Value → pm_H → Prop} {a0 : Int32} {a1 : Int32} {a2 : Int32} {a3 : Int32} (T : rf_T m w h)  (K : ∀ (r : Int32) (m' : Nat → Int32) (w' : Int64) (h' : pm_H), rf_T m' w' h' → rf_G [41, 53, 54] h h' → rf_W [0, 23, 24, 26] m m' → Q (some (.int r)) h') : pm_R (d + 5) 289 0 [.ref 41, .int a0, .int a1, .int a2, .int a3, pm_no, pm_no] [] h Q := by
  refine pm_R_lo pm_M289 (pc' := 1) rfl rfl rfl ?_
  refine pm_R_op pm_M289 (pc' := 2) (st' := [.int 0, .ref 41]) rfl rfl rfl ?_
  refine rf_R_put pm_M289 T (pc' := 5) rfl rfl rfl (by decide) rfl rfl sf_k0 rfl rfl (fun h1 m4 em5 T2 F3 => ?_)
  have F6 := (rf_G.refl [41, 53, 54] h).trans F3 (by decide)
  have B7 : sf_B 0 0 (m4 0) := by rw [em5]; exact sf_k0
  have W9 : rf_W [0, 23, 24, 26] m m4 := by rw [em5]; exact (rf_W.refl [0, 23, 24, 26] m).put (by decide)
  refine pm_R_lo pm_M289 (pc' := 6) rfl rfl rfl ?_
  refine pm_R_lo pm_M289 (pc' := 7) rfl rfl rfl ?_
  refine pm_R_lo pm_M289 (pc' := 8) rfl rfl rfl ?_
  refine pm_R_cv pm_M289 (pc' := 11) (a := 41) (ra := [.int a1, .int a0]) (rest := []) (ls' := [.ref 41, .int a0, .int a1]) rfl rfl (Or.inl rfl) pm_M200 T2.2.1 rfl (by decide) (Nat.lt_of_lt_of_le (by decide) T2.1) rfl rfl (Nat.le_of_ble_eq_true rfl) rfl rfl ?_
  refine pm_R_lo pm_M200 (pc' := 1) rfl rfl rfl ?_
  refine pm_R_op pm_M200 (pc' := 2) (st' := [.int 0, .ref 41]) rfl rfl rfl ?_
  refine pm_R_lo pm_M200 (pc' := 3) rfl rfl rfl ?_
  refine pm_R_cv pm_M200 (pc' := 6) (a := 41) (ra := [.int a0, .int 0]) (rest := []) (ls' := [.ref 41, .int 0, .int a0]) rfl rfl (Or.inl rfl) pm_M177 T2.2.1 rfl (by decide) (Nat.lt_of_lt_of_le (by decide) T2.1) rfl rfl (Nat.le_of_ble_eq_true rfl) rfl rfl ?_
  refine pm_R_lo pm_M177 (pc' := 1) rfl rfl rfl ?_
  refine pm_R_op pm_M177 (pc' := 2) (st' := [.int 0, .int a0]) rfl rfl rfl ?_
  refine pm_R_lo pm_M177 (pc' := 3) rfl rfl rfl ?_
  refine rf_R_get pm_M177 T2 (pc' := 6) (v := .ref 46) rfl rfl rfl rfl ?_
  refine pm_R_lo pm_M177 (pc' := 7) rfl rfl rfl ?_
  obtain ⟨f10, e11, b12⟩ := T2.2.2.2.1 46 (by decide) (by decide)
  refine rf_R_ild pm_M177 T2 (pc' := 8) rfl e11 (by decide) rfl rfl (fun z13 ez14 => ?_)
  have B15 : sf_B 0 2 z13 := ez14 ▸ (b12 0)
  refine pm_R_op pm_M177 (pc' := 9) (st' := [.int 1, .int z13, .int 0, .int a0]) rfl rfl rfl ?_
  refine sf_R_isub pm_M177 (pc' := 10) rfl rfl B15 sf_k1 (by decide) (by decide) (fun z16 e17 B18 => ?_)
  refine pm_R_cs pm_M177 (pc' := 13) (ra := [.int z16, .int 0, .int a0]) (rest := []) (ls' := [.int a0, .int 0, .int z16]) rfl rfl (Or.inl rfl) pm_M174 rfl rfl (Nat.le_of_ble_eq_true rfl) rfl rfl ?_
  refine pm_R_lo pm_M174 (pc' := 1) rfl rfl rfl ?_
  refine pm_R_lo pm_M174 (pc' := 2) rfl rfl rfl ?_
  refine pm_R_icmp pm_M174 (t := 14) (pc' := 5) rfl rfl rfl (fun c19 => ?_) (fun c19 => ?_)
  · have B20 : sf_B (-2147483648) (-1) a0 := sf_ltL c19 (sf_any a0) sf_k0
    refine pm_R_op pm_M174 (pc' := 15) (st' := [.int 0]) rfl rfl rfl ?_
    refine pm_R_ret pm_M174 (r := some (.int 0)) rfl rfl ?_
    show pm_R _ 177 13 [.ref 41, .int 0, .int a0] [.int 0] _ _
    refine pm_R_ret pm_M177 (r := some (.int 0)) rfl rfl ?_
    show pm_R _ 200 6 [.ref 41, .int a0, .int a1] [.int 0] _ _
    refine pm_R_br pm_M200 (pc' := 18) (st' := []) rfl rfl ?_
    refine pm_R_op pm_M200 (pc' := 19) (st' := [.int 0]) rfl rfl rfl ?_
    refine pm_R_ret pm_M200 (r := some (.int 0)) rfl rfl ?_
    show pm_R _ 289 11 [.ref 41, .int a0, .int a1, .int a2, .int a3, pm_no, pm_no] [.int 0] _ _
    refine pm_R_br pm_M289 (pc' := 43) (st' := []) rfl rfl ?_
    refine pm_R_op pm_M289 (pc' := 44) (st' := [.int (-1)]) rfl rfl rfl ?_
    exact pm_R_ret pm_M289 (r := some (.int (-1))) rfl rfl (K (-1) m4 w h1 T2 F6 W9)
  · have B21 : sf_B 0 2147483647 a0 := sf_leR (Int32.not_lt.mp c19) sf_k0 (sf_any a0)
    refine pm_R_lo pm_M174 (pc' := 6) rfl rfl rfl ?_
    refine pm_R_lo pm_M174 (pc' := 7) rfl rfl rfl ?_
    refine pm_R_icmp pm_M174 (t := 14) (pc' := 10) rfl rfl rfl (fun c22 => ?_) (fun c22 => ?_)
    · skip
      refine pm_R_op pm_M174 (pc' := 15) (st' := [.int 0]) rfl rfl rfl ?_
      refine pm_R_ret pm_M174 (r := some (.int 0)) rfl rfl ?_
      show pm_R _ 177 13 [.ref 41, .int 0, .int a0] [.int 0] _ _
      refine pm_R_ret pm_M177 (r := some (.int 0)) rfl rfl ?_
      show pm_R _ 200 6 [.ref 41, .int a0, .int a1] [.int 0] _ _
      refine pm_R_br pm_M200 (pc' := 18) (st' := []) rfl rfl ?_
      refine pm_R_op pm_M200 (pc' := 19) (st' := [.int 0]) rfl rfl rfl ?_
      refine pm_R_ret pm_M200 (r := some (.int 0)) rfl rfl ?_
      show pm_R _ 289 11 [.ref 41, .int a0, .int a1, .int a2, .int a3, pm_no, pm_no] [.int 0] _ _
      refine pm_R_br pm_M289 (pc' := 43) (st' := []) rfl rfl ?_
      refine pm_R_op pm_M289 (pc' := 44) (st' := [.int (-1)]) rfl rfl rfl ?_
      exact pm_R_ret pm_M289 (r := some (.int (-1))) rfl rfl (K (-1) m4 w h1 T2 F6 W9)
    · have B23 : sf_B 0 1 a0 := sf_leL (Int32.not_lt.mp c22) B21 B18
      have B24 : sf_B 0 1 z16 := sf_leR (Int32.not_lt.mp c22) B21 B18
      refine pm_R_op pm_M174 (pc' := 11) (st' := [.int 1]) rfl rfl rfl ?_
      refine pm_R_br pm_M174 (pc' := 15) rfl rfl ?_
      refine pm_R_ret pm_M174 (r := some (.int 1)) rfl rfl ?_
      show pm_R _ 177 13 [.ref 41, .int 0, .int a0] [.int 1] _ _
      refine pm_R_ret pm_M177 (r := some (.int 1)) rfl rfl ?_
      show pm_R _ 200 6 [.ref 41, .int a0, .int a1] [.int 1] _ _
      refine pm_R_br pm_M200 (pc' := 9) (st' := []) rfl rfl ?_
      refine pm_R_lo pm_M200 (pc' := 10) rfl rfl rfl ?_
      refine pm_R_op pm_M200 (pc' := 11) (st' := [.int 1, .ref 41]) rfl rfl rfl ?_
      refine pm_R_lo pm_M200 (pc' := 12) rfl rfl rfl ?_
      refine pm_R_cv pm_M200 (pc' := 15) (a := 41) (ra := [.int a1, .int 1]) (rest := []) (ls' := [.ref 41, .int 1, .int a1]) rfl rfl (Or.inl rfl) pm_M177 T2.2.1 rfl (by decide) (Nat.lt_of_lt_of_le (by decide) T2.1) rfl rfl (Nat.le_of_ble_eq_true rfl) rfl rfl ?_
      refine pm_R_lo pm_M177 (pc' := 1) rfl rfl rfl ?_
      refine pm_R_op pm_M177 (pc' := 2) (st' := [.int 0, .int a1]) rfl rfl rfl ?_
      refine pm_R_lo pm_M177 (pc' := 3) rfl rfl rfl ?_
      refine rf_R_get pm_M177 T2 (pc' := 6) (v := .ref 46) rfl rfl rfl rfl ?_
      refine pm_R_lo pm_M177 (pc' := 7) rfl rfl rfl ?_
      refine rf_R_ild pm_M177 T2 (pc' := 8) rfl e11 (by decide) rfl rfl (fun z25 ez26 => ?_)
      have B27 : sf_B 0 3 z25 := ez26 ▸ (b12 1)
      refine pm_R_op pm_M177 (pc' := 9) (st' := [.int 1, .int z25, .int 0, .int a1]) rfl rfl rfl ?_
      refine sf_R_isub pm_M177 (pc' := 10) rfl rfl B27 sf_k1 (by decide) (by decide) (fun z28 e29 B30 => ?_)
      refine pm_R_cs pm_M177 (pc' := 13) (ra := [.int z28, .int 0, .int a1]) (rest := []) (ls' := [.int a1, .int 0, .int z28]) rfl rfl (Or.inl rfl) pm_M174 rfl rfl (Nat.le_of_ble_eq_true rfl) rfl rfl ?_
      refine pm_R_lo pm_M174 (pc' := 1) rfl rfl rfl ?_
      refine pm_R_lo pm_M174 (pc' := 2) rfl rfl rfl ?_
      refine pm_R_icmp pm_M174 (t := 14) (pc' := 5) rfl rfl rfl (fun c31 => ?_) (fun c31 => ?_)
      · have B32 : sf_B (-2147483648) (-1) a1 := sf_ltL c31 (sf_any a1) sf_k0
        refine pm_R_op pm_M174 (pc' := 15) (st' := [.int 0]) rfl rfl rfl ?_
        refine pm_R_ret pm_M174 (r := some (.int 0)) rfl rfl ?_
        show pm_R _ 177 13 [.ref 41, .int 1, .int a1] [.int 0] _ _
        refine pm_R_ret pm_M177 (r := some (.int 0)) rfl rfl ?_
        show pm_R _ 200 15 [.ref 41, .int a0, .int a1] [.int 0] _ _
        refine pm_R_br pm_M200 (pc' := 18) (st' := []) rfl rfl ?_
        refine pm_R_op pm_M200 (pc' := 19) (st' := [.int 0]) rfl rfl rfl ?_
        refine pm_R_ret pm_M200 (r := some (.int 0)) rfl rfl ?_
        show pm_R _ 289 11 [.ref 41, .int a0, .int a1, .int a2, .int a3, pm_no, pm_no] [.int 0] _ _
        refine pm_R_br pm_M289 (pc' := 43) (st' := []) rfl rfl ?_
        refine pm_R_op pm_M289 (pc' := 44) (st' := [.int (-1)]) rfl rfl rfl ?_
        exact pm_R_ret pm_M289 (r := some (.int (-1))) rfl rfl (K (-1) m4 w h1 T2 F6 W9)
      · have B33 : sf_B 0 2147483647 a1 := sf_leR (Int32.not_lt.mp c31) sf_k0 (sf_any a1)
        refine pm_R_lo pm_M174 (pc' := 6) rfl rfl rfl ?_
        refine pm_R_lo pm_M174 (pc' := 7) rfl rfl rfl ?_
        refine pm_R_icmp pm_M174 (t := 14) (pc' := 10) rfl rfl rfl (fun c34 => ?_) (fun c34 => ?_)
        · skip
          refine pm_R_op pm_M174 (pc' := 15) (st' := [.int 0]) rfl rfl rfl ?_
          refine pm_R_ret pm_M174 (r := some (.int 0)) rfl rfl ?_
          show pm_R _ 177 13 [.ref 41, .int 1, .int a1] [.int 0] _ _
          refine pm_R_ret pm_M177 (r := some (.int 0)) rfl rfl ?_
          show pm_R _ 200 15 [.ref 41, .int a0, .int a1] [.int 0] _ _
          refine pm_R_br pm_M200 (pc' := 18) (st' := []) rfl rfl ?_
          refine pm_R_op pm_M200 (pc' := 19) (st' := [.int 0]) rfl rfl rfl ?_
          refine pm_R_ret pm_M200 (r := some (.int 0)) rfl rfl ?_
          show pm_R _ 289 11 [.ref 41, .int a0, .int a1, .int a2, .int a3, pm_no, pm_no] [.int 0] _ _
          refine pm_R_br pm_M289 (pc' := 43) (st' := []) rfl rfl ?_
          refine pm_R_op pm_M289 (pc' := 44) (st' := [.int (-1)]) rfl rfl rfl ?_
          exact pm_R_ret pm_M289 (r := some (.int (-1))) rfl rfl (K (-1) m4 w h1 T2 F6 W9)
        · have V35 := rf_V.mk e11 ez26 e29 (Int32.not_lt.mp c34) B33 (by decide)
          have V35 := V35.back F6 (by decide)
          have B36 : sf_B 0 2 a1 := sf_leL (Int32.not_lt.mp c34) B33 B30
          have B37 : sf_B 0 2 z28 := sf_leR (Int32.not_lt.mp c34) B33 B30
          refine pm_R_op pm_M174 (pc' := 11) (st' := [.int 1]) rfl rfl rfl ?_
          refine pm_R_br pm_M174 (pc' := 15) rfl rfl ?_
          refine pm_R_ret pm_M174 (r := some (.int 1)) rfl rfl ?_
          show pm_R _ 177 13 [.ref 41, .int 1, .int a1] [.int 1] _ _
          refine pm_R_ret pm_M177 (r := some (.int 1)) rfl rfl ?_
          show pm_R _ 200 15 [.ref 41, .int a0, .int a1] [.int 1] _ _
          refine pm_R_br pm_M200 (pc' := 20) (st' := []) rfl rfl ?_
          refine pm_R_lo pm_M200 (pc' := 21) rfl rfl rfl ?_
          refine pm_R_lo pm_M200 (pc' := 22) rfl rfl rfl ?_
          refine pm_R_lo pm_M200 (pc' := 23) rfl rfl rfl ?_
          refine pm_R_cv pm_M200 (pc' := 26) (a := 41) (ra := [.int a1, .int a0]) (rest := []) (ls' := [.ref 41, .int a0, .int a1, pm_no]) rfl rfl (Or.inl rfl) pm_M201 T2.2.1 rfl (by decide) (Nat.lt_of_lt_of_le (by decide) T2.1) rfl rfl (Nat.le_of_ble_eq_true rfl) rfl rfl ?_
          refine rf_c201 (d := d + 3) T2 B23 B36 (V35.F F6 (by decide)) (fun m40 w41 h42 T43 F44 W45 X46 B47 => ?_)
          have F48 := F6.trans F44 (by decide)
          have W49 : rf_W [0, 23, 24, 26] m m40 := W9.trans W45 (by decide)
          show pm_R _ 200 26 [.ref 41, .int a0, .int a1] [] _ _
          refine pm_R_op pm_M200 (pc' := 27) (st' := [.int 1]) rfl rfl rfl ?_
          refine pm_R_ret pm_M200 (r := some (.int 1)) rfl rfl ?_
          show pm_R _ 289 11 [.ref 41, .int a0, .int a1, .int a2, .int a3, pm_no, pm_no] [.int 1] _ _
          refine pm_R_br pm_M289 (pc' := 14) (st' := []) rfl rfl ?_
          refine pm_R_lo pm_M289 (pc' := 15) rfl rfl rfl ?_
          refine pm_R_op pm_M289 (pc' := 16) (st' := [.int 0, .int a2]) rfl rfl rfl ?_
          refine pm_R_lo pm_M289 (pc' := 17) rfl rfl rfl ?_
          refine rf_R_get pm_M289 T43 (pc' := 20) (v := .int (m40 24)) rfl rfl rfl rfl ?_
          refine pm_R_op pm_M289 (pc' := 21) (st' := [.int 1, .int (m40 24), .int 0, .int a2]) rfl rfl rfl ?_
          refine sf_R_isub pm_M289 (pc' := 22) rfl rfl B47 sf_k1 (by decide) (by decide) (fun z50 e51 B52 => ?_)
          refine pm_R_cs pm_M289 (pc' := 25) (ra := [.int z50, .int 0, .int a2]) (rest := []) (ls' := [.int a2, .int 0, .int z50]) rfl rfl (Or.inl rfl) pm_M174 rfl rfl (Nat.le_of_ble_eq_true rfl) rfl rfl ?_
          refine pm_R_lo pm_M174 (pc' := 1) rfl rfl rfl ?_
          refine pm_R_lo pm_M174 (pc' := 2) rfl rfl rfl ?_
          refine pm_R_icmp pm_M174 (t := 14) (pc' := 5) rfl rfl rfl (fun c53 => ?_) (fun c53 => ?_)
          · have B54 : sf_B (-2147483648) (-1) a2 := sf_ltL c53 (sf_any a2) sf_k0
            refine pm_R_op pm_M174 (pc' := 15) (st' := [.int 0]) rfl rfl rfl ?_
            refine pm_R_ret pm_M174 (r := some (.int 0)) rfl rfl ?_
            show pm_R _ 289 25 [.ref 41, .int a0, .int a1, .int a2, .int a3, pm_no, pm_no] [.int 0] _ _
            refine pm_R_br pm_M289 (pc' := 43) (st' := []) rfl rfl ?_
            refine pm_R_op pm_M289 (pc' := 44) (st' := [.int (-1)]) rfl rfl rfl ?_
            exact pm_R_ret pm_M289 (r := some (.int (-1))) rfl rfl (K (-1) m40 w41 h42 T43 F48 W49)
          · have B55 : sf_B 0 2147483647 a2 := sf_leR (Int32.not_lt.mp c53) sf_k0 (sf_any a2)
            refine pm_R_lo pm_M174 (pc' := 6) rfl rfl rfl ?_
            refine pm_R_lo pm_M174 (pc' := 7) rfl rfl rfl ?_
            refine pm_R_icmp pm_M174 (t := 14) (pc' := 10) rfl rfl rfl (fun c56 => ?_) (fun c56 => ?_)
            · have B57 : sf_B 1 2147483647 a2 := sf_ltR c56 B52 B55
              refine pm_R_op pm_M174 (pc' := 15) (st' := [.int 0]) rfl rfl rfl ?_
              refine pm_R_ret pm_M174 (r := some (.int 0)) rfl rfl ?_
              show pm_R _ 289 25 [.ref 41, .int a0, .int a1, .int a2, .int a3, pm_no, pm_no] [.int 0] _ _
              refine pm_R_br pm_M289 (pc' := 43) (st' := []) rfl rfl ?_
              refine pm_R_op pm_M289 (pc' := 44) (st' := [.int (-1)]) rfl rfl rfl ?_
              exact pm_R_ret pm_M289 (r := some (.int (-1))) rfl rfl (K (-1) m40 w41 h42 T43 F48 W49)
            · have B58 : sf_B 0 11 a2 := sf_leL (Int32.not_lt.mp c56) B55 B52
              refine pm_R_op pm_M174 (pc' := 11) (st' := [.int 1]) rfl rfl rfl ?_
              refine pm_R_br pm_M174 (pc' := 15) rfl rfl ?_
              refine pm_R_ret pm_M174 (r := some (.int 1)) rfl rfl ?_
              show pm_R _ 289 25 [.ref 41, .int a0, .int a1, .int a2, .int a3, pm_no, pm_no] [.int 1] _ _
              refine pm_R_br pm_M289 (pc' := 28) (st' := []) rfl rfl ?_
              refine pm_R_lo pm_M289 (pc' := 30) rfl rfl rfl ?_
              refine pm_R_lo pm_M289 (pc' := 31) rfl rfl rfl ?_
              refine pm_R_lo pm_M289 (pc' := 32) rfl rfl rfl ?_
              refine rf_R_get pm_M289 T43 (pc' := 35) (v := .int (m40 24)) rfl rfl rfl rfl ?_
              refine pm_R_op pm_M289 (pc' := 36) (st' := [.int 1, .int (m40 24), .int a2, .int a3]) rfl rfl rfl ?_
              refine sf_R_isubV pm_M289 (pc' := 37) rfl rfl B47 sf_k1 (by decide) (by decide) e51 ?_
              refine pm_R_cs pm_M289 (pc' := 40) (ra := [.int z50, .int a2, .int a3]) (rest := []) (ls' := [.int a3, .int a2, .int z50]) rfl rfl (Or.inl rfl) pm_M174 rfl rfl (Nat.le_of_ble_eq_true rfl) rfl rfl ?_
              refine pm_R_lo pm_M174 (pc' := 1) rfl rfl rfl ?_
              refine pm_R_lo pm_M174 (pc' := 2) rfl rfl rfl ?_
              refine pm_R_icmp pm_M174 (t := 14) (pc' := 5) rfl rfl rfl (fun c59 => ?_) (fun c59 => ?_)
              · have B60 : sf_B (-2147483648) 10 a3 := sf_ltL c59 (sf_any a3) B58
                refine pm_R_op pm_M174 (pc' := 15) (st' := [.int 0]) rfl rfl rfl ?_
                refine pm_R_ret pm_M174 (r := some (.int 0)) rfl rfl ?_
                show pm_R _ 289 40 [.ref 41, .int a0, .int a1, .int a2, .int a3, pm_no, pm_no] [.int 0] _ _
                refine pm_R_br pm_M289 (pc' := 43) (st' := []) rfl rfl ?_
                refine pm_R_op pm_M289 (pc' := 44) (st' := [.int (-1)]) rfl rfl rfl ?_
                exact pm_R_ret pm_M289 (r := some (.int (-1))) rfl rfl (K (-1) m40 w41 h42 T43 F48 W49)
              · have B61 : sf_B 0 2147483647 a3 := sf_leR (Int32.not_lt.mp c59) B58 (sf_any a3)
                refine pm_R_lo pm_M174 (pc' := 6) rfl rfl rfl ?_
                refine pm_R_lo pm_M174 (pc' := 7) rfl rfl rfl ?_
                refine pm_R_icmp pm_M174 (t := 14) (pc' := 10) rfl rfl rfl (fun c62 => ?_) (fun c62 => ?_)
                · have B63 : sf_B 1 2147483647 a3 := sf_ltR c62 B52 B61
                  refine pm_R_op pm_M174 (pc' := 15) (st' := [.int 0]) rfl rfl rfl ?_
                  refine pm_R_ret pm_M174 (r := some (.int 0)) rfl rfl ?_
                  show pm_R _ 289 40 [.ref 41, .int a0, .int a1, .int a2, .int a3, pm_no, pm_no] [.int 0] _ _
                  refine pm_R_br pm_M289 (pc' := 43) (st' := []) rfl rfl ?_
                  refine pm_R_op pm_M289 (pc' := 44) (st' := [.int (-1)]) rfl rfl rfl ?_
                  exact pm_R_ret pm_M289 (r := some (.int (-1))) rfl rfl (K (-1) m40 w41 h42 T43 F48 W49)
                · have B64 : sf_B 0 11 a3 := sf_leL (Int32.not_lt.mp c62) B61 B52
                  refine pm_R_op pm_M174 (pc' := 11) (st' := [.int 1]) rfl rfl rfl ?_
                  refine pm_R_br pm_M174 (pc' := 15) rfl rfl ?_
                  refine pm_R_ret pm_M174 (r := some (.int 1)) rfl rfl ?_
                  show pm_R _ 289 40 [.ref 41, .int a0, .int a1, .int a2, .int a3, pm_no, pm_no] [.int 1] _ _
                  refine pm_R_br pm_M289 (pc' := 45) (st' := []) rfl rfl ?_
                  refine pm_R_lo pm_M289 (pc' := 46) rfl rfl rfl ?_
                  refine pm_R_cv pm_M289 (pc' := 49) (a := 41) (ra := []) (rest := []) (ls' := [.ref 41, pm_no, pm_no, pm_no, pm_no, pm_no]) rfl rfl (Or.inl rfl) pm_M216 T43.2.1 rfl (by decide) (Nat.lt_of_lt_of_le (by decide) T43.1) rfl rfl (Nat.le_of_ble_eq_true rfl) rfl rfl ?_
                  refine rf_c216 (d := d + 0) T43  (fun m67 w68 h69 T70 F71 W72 => ?_)
                  have F73 := F48.trans F71 (by decide)
                  have B74 : sf_B 1 12 (m67 24) := by rw [W72 24 (by decide)]; exact B47
                  have W75 : rf_W [0, 23, 24, 26] m m67 := W49.trans W72 (by decide)
                  show pm_R _ 289 49 [.ref 41, .int a0, .int a1, .int a2, .int a3, pm_no, pm_no] [] _ _
                  refine pm_R_op pm_M289 (pc' := 50) (st' := [.int 0]) rfl rfl rfl ?_
                  refine pm_R_lo pm_M289 (pc' := 52) (ls' := [.ref 41, .int a0, .int a1, .int a2, .int a3, .int 0, pm_no]) (st' := []) rfl rfl rfl ?_
                  refine pm_R_op pm_M289 (pc' := 53) (st' := [.int 0]) rfl rfl rfl ?_
                  refine pm_R_lo pm_M289 (pc' := 55) (ls' := [.ref 41, .int a0, .int a1, .int a2, .int a3, .int 0, .int 0]) (st' := []) rfl rfl rfl ?_
                  have L_295 : ∀ (N : Nat) (x5_295 : Int32) (x6_295 : Int32), sf_B (-2147483648) 2147483647 x5_295 → sf_B 0 6 x6_295 → (6 - x6_295.toInt).toNat = N → pm_R (d + 5) 289 55 [.ref 41, .int a0, .int a1, .int a2, .int a3, .int x5_295, .int x6_295] [] h69 Q := by
                    intro N
                    induction N using Nat.strongRecOn with
                    | ind N ih_295 =>
                      intro x5_295 x6_295 Bx5_295 Bx6_295 hN_295
                      refine pm_R_lo pm_M289 (pc' := 57) rfl rfl rfl ?_
                      refine pm_R_op pm_M289 (pc' := 59) (st' := [.int 6, .int x6_295]) rfl rfl rfl ?_
                      refine pm_R_icmp pm_M289 (t := 99) (pc' := 62) rfl rfl rfl (fun c296 => ?_) (fun c296 => ?_)
                      · have B297 : sf_B 6 6 x6_295 := sf_leR c296 sf_k6 Bx6_295
                        refine pm_R_lo pm_M289 (pc' := 101) rfl rfl rfl ?_
                        exact pm_R_ret pm_M289 (r := some (.int x5_295)) rfl (pm_ret_i _) (K x5_295 m67 w68 h69 T70 F73 W75)
                      · have B298 : sf_B 0 5 x6_295 := sf_ltL (Int32.not_le.mp c296) Bx6_295 sf_k6
                        refine pm_R_lo pm_M289 (pc' := 64) rfl rfl rfl ?_
                        refine pm_R_lo pm_M289 (pc' := 65) rfl rfl rfl ?_
                        refine rf_R_get pm_M289 T70 (pc' := 68) (v := .ref 54) rfl rfl rfl rfl ?_
                        refine pm_R_lo pm_M289 (pc' := 70) rfl rfl rfl ?_
                        refine pm_R_lo pm_M289 (pc' := 71) rfl rfl rfl ?_
                        refine pm_R_lo pm_M289 (pc' := 73) rfl rfl rfl ?_
                        refine pm_R_cs pm_M289 (pc' := 76) (ra := [.int a3, .int a2, .int x6_295]) (rest := [.ref 54, .int x5_295]) (ls' := [.int x6_295, .int a2, .int a3]) rfl rfl (Or.inl rfl) pm_M207 rfl rfl (Nat.le_of_ble_eq_true rfl) rfl rfl ?_
                        refine pm_R_op pm_M207 (pc' := 3) (st' := [.int 144]) rfl rfl rfl ?_
                        refine pm_R_lo pm_M207 (pc' := 4) rfl rfl rfl ?_
                        refine sf_R_imul pm_M207 (pc' := 5) rfl rfl sf_k144 B298 (by decide) (by decide) (by decide) (fun z299 e300 B301 => ?_)
                        refine pm_R_op pm_M207 (pc' := 7) (st' := [.int 12, .int z299]) rfl rfl rfl ?_
                        refine pm_R_lo pm_M207 (pc' := 8) rfl rfl rfl ?_
                        refine sf_R_imul pm_M207 (pc' := 9) rfl rfl sf_k12 B58 (by decide) (by decide) (by decide) (fun z302 e303 B304 => ?_)
                        refine sf_R_iadd pm_M207 (pc' := 10) rfl rfl B301 B304 (by decide) (by decide) (fun z305 e306 B307 => ?_)
                        refine pm_R_lo pm_M207 (pc' := 11) rfl rfl rfl ?_
                        refine sf_R_iadd pm_M207 (pc' := 12) rfl rfl B307 B64 (by decide) (by decide) (fun z308 e309 B310 => ?_)
                        refine pm_R_ret pm_M207 (r := some (.int z308)) rfl (pm_ret_i _) ?_
                        show pm_R _ 289 76 [.ref 41, .int a0, .int a1, .int a2, .int a3, .int x5_295, .int x6_295] [.int z308, .ref 54, .int x5_295] _ _
                        obtain ⟨f311, e312⟩ := T70.2.2.2.1 54 (by decide) (by decide)
                        refine rf_R_lld pm_M289 T70 (pc' := 77) rfl e312 (by decide) (by decide) (sf_in B310 (by decide) (by decide)) rfl (fun z314 ez315 => ?_)
                        refine pm_R_op pm_M289 (pc' := 78) (st' := [.long 0, .long z314, .int x5_295]) rfl rfl rfl ?_
                        refine sf_R_lcmp pm_M289 (pc' := 79) rfl rfl (fun z316 e317 => ?_)
                        refine pm_R_ifc pm_M289 (t := 89) (pc' := 82) rfl rfl rfl (fun c318 => ?_) (fun c318 => ?_)
                        · have B319 : sf_B 0 0 z316 := sf_eqL c318 sf_k0
                          refine pm_R_op pm_M289 (pc' := 90) (st' := [.int 0, .int x5_295]) rfl rfl rfl ?_
                          refine sf_R_iany pm_M289 (pc' := 91) (st := []) rfl rfl rfl (fun z323 => ?_)
                          refine pm_R_lo pm_M289 (pc' := 93) (ls' := [.ref 41, .int a0, .int a1, .int a2, .int a3, .int z323, .int x6_295]) (st' := []) rfl rfl rfl ?_
                          refine sf_R_iinc pm_M289 (pc' := 96) (ls' := fun z => [.ref 41, .int a0, .int a1, .int a2, .int a3, .int z323, .int z]) rfl B298 rfl (by decide) (by decide) (by decide) (fun _ => rfl) rfl (fun z324 e325 B326 => ?_)
                          show pm_R _ 289 96 [.ref 41, .int a0, .int a1, .int a2, .int a3, .int z323, .int z324] [] _ _
                          refine pm_R_br pm_M289 (pc' := 55) rfl rfl ?_
                          exact ih_295 _ (sf_up hN_295 e325 B298 (by decide) (by decide)) z323 z324 (sf_any z323) (sf_weak B326 (by decide) (by decide)) rfl
                        · have k327 := sf_lneC e317 c318
                          refine pm_R_op pm_M289 (pc' := 83) (st' := [.int 1, .int x5_295]) rfl rfl rfl ?_
                          refine pm_R_lo pm_M289 (pc' := 85) rfl rfl rfl ?_
                          refine sf_R_iany pm_M289 (pc' := 86) (st := [.int x5_295]) rfl rfl rfl (fun z331 => ?_)
                          refine pm_R_br pm_M289 (pc' := 90) rfl rfl ?_
                          refine sf_R_iany pm_M289 (pc' := 91) (st := []) rfl rfl rfl (fun z335 => ?_)
                          refine pm_R_lo pm_M289 (pc' := 93) (ls' := [.ref 41, .int a0, .int a1, .int a2, .int a3, .int z335, .int x6_295]) (st' := []) rfl rfl rfl ?_
                          refine sf_R_iinc pm_M289 (pc' := 96) (ls' := fun z => [.ref 41, .int a0, .int a1, .int a2, .int a3, .int z335, .int z]) rfl B298 rfl (by decide) (by decide) (by decide) (fun _ => rfl) rfl (fun z336 e337 B338 => ?_)
                          show pm_R _ 289 96 [.ref 41, .int a0, .int a1, .int a2, .int a3, .int z335, .int z336] [] _ _
                          refine pm_R_br pm_M289 (pc' := 55) rfl rfl ?_
                          exact ih_295 _ (sf_up hN_295 e337 B298 (by decide) (by decide)) z335 z336 (sf_any z335) (sf_weak B338 (by decide) (by decide)) rfl
                  exact L_295 _ 0 0 (sf_weak sf_k0 (by decide) (by decide)) (sf_weak sf_k0 (by decide) (by decide)) rfl

set_option maxRecDepth 100000 in
set_option maxHeartbeats 4000000 in
/-- SilentTableModel.asks -/
theorem rf_c290 {d : Nat} {m : Nat → Int32} {w : Int64} {h : pm_H} {Q : Option Value → pm_H → Prop} {a0 : Int32} {a1 : Int32} {a2 : Int32} {a3 : Int32} {a4 : Int32} {a5 : Int32} (T : rf_T m w h)  (K : ∀ (r : Int32) (m' : Nat → Int32) (w' : Int64) (h' : pm_H), rf_T m' w' h' → rf_G [41, 53, 54, 55, 66, 67, 68] h h' → rf_W [0, 23, 24, 26, 42, 43, 44] m m' → sf_B (-1) 9 r → Q (some (.int r)) h') : pm_R (d + 9) 290 0 [.ref 41, .int a0, .int a1, .int a2, .int a3, .int a4, .int a5, pm_no] [] h Q := by
  refine pm_R_lo pm_M290 (pc' := 1) rfl rfl rfl ?_
  refine pm_R_op pm_M290 (pc' := 2) (st' := [.int 0, .ref 41]) rfl rfl rfl ?_
  refine rf_R_put pm_M290 T (pc' := 5) rfl rfl rfl (by decide) rfl rfl sf_k0 rfl rfl (fun h1 m4 em5 T2 F3 => ?_)
  have F6 := (rf_G.refl [41, 53, 54, 55, 66, 67, 68] h).trans F3 (by decide)
  have B7 : sf_B 0 0 (m4 0) := by rw [em5]; exact sf_k0
  have W9 : rf_W [0, 23, 24, 26, 42, 43, 44] m m4 := by rw [em5]; exact (rf_W.refl [0, 23, 24, 26, 42, 43, 44] m).put (by decide)
  refine pm_R_lo pm_M290 (pc' := 6) rfl rfl rfl ?_
  refine pm_R_lo pm_M290 (pc' := 7) rfl rfl rfl ?_
  refine pm_R_lo pm_M290 (pc' := 9) rfl rfl rfl ?_
  refine pm_R_lo pm_M290 (pc' := 11) rfl rfl rfl ?_
  refine pm_R_cv pm_M290 (pc' := 14) (a := 41) (ra := [.int a4, .int a3, .int a2]) (rest := []) (ls' := [.ref 41, .int a2, .int a3, .int a4, pm_no, pm_no, pm_no, pm_no, pm_no]) rfl rfl (Or.inl rfl) pm_M266 T2.2.1 rfl (by decide) (Nat.lt_of_lt_of_le (by decide) T2.1) rfl rfl (Nat.le_of_ble_eq_true rfl) rfl rfl ?_
  refine rf_c266 (d := d + 5) T2  (fun r10 m12 w13 h14 T15 F16 W17 B11 => ?_)
  have F18 := F6.trans F16 (by decide)
  have W19 : rf_W [0, 23, 24, 26, 42, 43, 44] m m12 := W9.trans W17 (by decide)
  show pm_R _ 290 14 [.ref 41, .int a0, .int a1, .int a2, .int a3, .int a4, .int a5, pm_no] [.int r10] _ _
  refine pm_R_lo pm_M290 (pc' := 16) (ls' := [.ref 41, .int a0, .int a1, .int a2, .int a3, .int a4, .int a5, .int r10]) (st' := []) rfl rfl rfl ?_
  refine pm_R_lo pm_M290 (pc' := 18) rfl rfl rfl ?_
  refine pm_R_op pm_M290 (pc' := 19) (st' := [.int (-1), .int r10]) rfl rfl rfl ?_
  refine pm_R_icmp pm_M290 (t := 41) (pc' := 22) rfl rfl rfl (fun c20 => ?_) (fun c20 => ?_)
  · have B21 : sf_B (-1) (-1) r10 := sf_eqL c20 sf_kn1
    refine pm_R_op pm_M290 (pc' := 42) (st' := [.int (-1)]) rfl rfl rfl ?_
    exact pm_R_ret pm_M290 (r := some (.int (-1))) rfl rfl (K (-1) m12 w13 h14 T15 F18 W19 (sf_weak sf_kn1 (by decide) (by decide)))
  · have B22 : sf_B 0 5 r10 := sf_neL0 c20 sf_kn1 B11
    refine pm_R_lo pm_M290 (pc' := 23) rfl rfl rfl ?_
    refine pm_R_op pm_M290 (pc' := 24) (st' := [.int 0, .ref 41]) rfl rfl rfl ?_
    refine pm_R_lo pm_M290 (pc' := 25) rfl rfl rfl ?_
    refine pm_R_cv pm_M290 (pc' := 28) (a := 41) (ra := [.int a0, .int 0]) (rest := []) (ls' := [.ref 41, .int 0, .int a0]) rfl rfl (Or.inl rfl) pm_M177 T15.2.1 rfl (by decide) (Nat.lt_of_lt_of_le (by decide) T15.1) rfl rfl (Nat.le_of_ble_eq_true rfl) rfl rfl ?_
    refine pm_R_lo pm_M177 (pc' := 1) rfl rfl rfl ?_
    refine pm_R_op pm_M177 (pc' := 2) (st' := [.int 0, .int a0]) rfl rfl rfl ?_
    refine pm_R_lo pm_M177 (pc' := 3) rfl rfl rfl ?_
    refine rf_R_get pm_M177 T15 (pc' := 6) (v := .ref 46) rfl rfl rfl rfl ?_
    refine pm_R_lo pm_M177 (pc' := 7) rfl rfl rfl ?_
    obtain ⟨f23, e24, b25⟩ := T15.2.2.2.1 46 (by decide) (by decide)
    refine rf_R_ild pm_M177 T15 (pc' := 8) rfl e24 (by decide) rfl rfl (fun z26 ez27 => ?_)
    have B28 : sf_B 0 2 z26 := ez27 ▸ (b25 0)
    refine pm_R_op pm_M177 (pc' := 9) (st' := [.int 1, .int z26, .int 0, .int a0]) rfl rfl rfl ?_
    refine sf_R_isub pm_M177 (pc' := 10) rfl rfl B28 sf_k1 (by decide) (by decide) (fun z29 e30 B31 => ?_)
    refine pm_R_cs pm_M177 (pc' := 13) (ra := [.int z29, .int 0, .int a0]) (rest := []) (ls' := [.int a0, .int 0, .int z29]) rfl rfl (Or.inl rfl) pm_M174 rfl rfl (Nat.le_of_ble_eq_true rfl) rfl rfl ?_
    refine pm_R_lo pm_M174 (pc' := 1) rfl rfl rfl ?_
    refine pm_R_lo pm_M174 (pc' := 2) rfl rfl rfl ?_
    refine pm_R_icmp pm_M174 (t := 14) (pc' := 5) rfl rfl rfl (fun c32 => ?_) (fun c32 => ?_)
    · have B33 : sf_B (-2147483648) (-1) a0 := sf_ltL c32 (sf_any a0) sf_k0
      refine pm_R_op pm_M174 (pc' := 15) (st' := [.int 0]) rfl rfl rfl ?_
      refine pm_R_ret pm_M174 (r := some (.int 0)) rfl rfl ?_
      show pm_R _ 177 13 [.ref 41, .int 0, .int a0] [.int 0] _ _
      refine pm_R_ret pm_M177 (r := some (.int 0)) rfl rfl ?_
      show pm_R _ 290 28 [.ref 41, .int a0, .int a1, .int a2, .int a3, .int a4, .int a5, .int r10] [.int 0] _ _
      refine pm_R_br pm_M290 (pc' := 41) (st' := []) rfl rfl ?_
      refine pm_R_op pm_M290 (pc' := 42) (st' := [.int (-1)]) rfl rfl rfl ?_
      exact pm_R_ret pm_M290 (r := some (.int (-1))) rfl rfl (K (-1) m12 w13 h14 T15 F18 W19 (sf_weak sf_kn1 (by decide) (by decide)))
    · have B34 : sf_B 0 2147483647 a0 := sf_leR (Int32.not_lt.mp c32) sf_k0 (sf_any a0)
      refine pm_R_lo pm_M174 (pc' := 6) rfl rfl rfl ?_
      refine pm_R_lo pm_M174 (pc' := 7) rfl rfl rfl ?_
      refine pm_R_icmp pm_M174 (t := 14) (pc' := 10) rfl rfl rfl (fun c35 => ?_) (fun c35 => ?_)
      · skip
        refine pm_R_op pm_M174 (pc' := 15) (st' := [.int 0]) rfl rfl rfl ?_
        refine pm_R_ret pm_M174 (r := some (.int 0)) rfl rfl ?_
        show pm_R _ 177 13 [.ref 41, .int 0, .int a0] [.int 0] _ _
        refine pm_R_ret pm_M177 (r := some (.int 0)) rfl rfl ?_
        show pm_R _ 290 28 [.ref 41, .int a0, .int a1, .int a2, .int a3, .int a4, .int a5, .int r10] [.int 0] _ _
        refine pm_R_br pm_M290 (pc' := 41) (st' := []) rfl rfl ?_
        refine pm_R_op pm_M290 (pc' := 42) (st' := [.int (-1)]) rfl rfl rfl ?_
        exact pm_R_ret pm_M290 (r := some (.int (-1))) rfl rfl (K (-1) m12 w13 h14 T15 F18 W19 (sf_weak sf_kn1 (by decide) (by decide)))
      · have B36 : sf_B 0 1 a0 := sf_leL (Int32.not_lt.mp c35) B34 B31
        have B37 : sf_B 0 1 z29 := sf_leR (Int32.not_lt.mp c35) B34 B31
        refine pm_R_op pm_M174 (pc' := 11) (st' := [.int 1]) rfl rfl rfl ?_
        refine pm_R_br pm_M174 (pc' := 15) rfl rfl ?_
        refine pm_R_ret pm_M174 (r := some (.int 1)) rfl rfl ?_
        show pm_R _ 177 13 [.ref 41, .int 0, .int a0] [.int 1] _ _
        refine pm_R_ret pm_M177 (r := some (.int 1)) rfl rfl ?_
        show pm_R _ 290 28 [.ref 41, .int a0, .int a1, .int a2, .int a3, .int a4, .int a5, .int r10] [.int 1] _ _
        refine pm_R_br pm_M290 (pc' := 31) (st' := []) rfl rfl ?_
        refine pm_R_lo pm_M290 (pc' := 32) rfl rfl rfl ?_
        refine pm_R_op pm_M290 (pc' := 33) (st' := [.int 0, .int a1]) rfl rfl rfl ?_
        refine pm_R_op pm_M290 (pc' := 35) (st' := [.int 49, .int 0, .int a1]) rfl rfl rfl ?_
        refine pm_R_cs pm_M290 (pc' := 38) (ra := [.int 49, .int 0, .int a1]) (rest := []) (ls' := [.int a1, .int 0, .int 49]) rfl rfl (Or.inl rfl) pm_M174 rfl rfl (Nat.le_of_ble_eq_true rfl) rfl rfl ?_
        refine pm_R_lo pm_M174 (pc' := 1) rfl rfl rfl ?_
        refine pm_R_lo pm_M174 (pc' := 2) rfl rfl rfl ?_
        refine pm_R_icmp pm_M174 (t := 14) (pc' := 5) rfl rfl rfl (fun c38 => ?_) (fun c38 => ?_)
        · have B39 : sf_B (-2147483648) (-1) a1 := sf_ltL c38 (sf_any a1) sf_k0
          refine pm_R_op pm_M174 (pc' := 15) (st' := [.int 0]) rfl rfl rfl ?_
          refine pm_R_ret pm_M174 (r := some (.int 0)) rfl rfl ?_
          show pm_R _ 290 38 [.ref 41, .int a0, .int a1, .int a2, .int a3, .int a4, .int a5, .int r10] [.int 0] _ _
          refine pm_R_br pm_M290 (pc' := 41) (st' := []) rfl rfl ?_
          refine pm_R_op pm_M290 (pc' := 42) (st' := [.int (-1)]) rfl rfl rfl ?_
          exact pm_R_ret pm_M290 (r := some (.int (-1))) rfl rfl (K (-1) m12 w13 h14 T15 F18 W19 (sf_weak sf_kn1 (by decide) (by decide)))
        · have B40 : sf_B 0 2147483647 a1 := sf_leR (Int32.not_lt.mp c38) sf_k0 (sf_any a1)
          refine pm_R_lo pm_M174 (pc' := 6) rfl rfl rfl ?_
          refine pm_R_lo pm_M174 (pc' := 7) rfl rfl rfl ?_
          refine pm_R_icmp pm_M174 (t := 14) (pc' := 10) rfl rfl rfl (fun c41 => ?_) (fun c41 => ?_)
          · have B42 : sf_B 50 2147483647 a1 := sf_ltR c41 sf_k49 B40
            refine pm_R_op pm_M174 (pc' := 15) (st' := [.int 0]) rfl rfl rfl ?_
            refine pm_R_ret pm_M174 (r := some (.int 0)) rfl rfl ?_
            show pm_R _ 290 38 [.ref 41, .int a0, .int a1, .int a2, .int a3, .int a4, .int a5, .int r10] [.int 0] _ _
            refine pm_R_br pm_M290 (pc' := 41) (st' := []) rfl rfl ?_
            refine pm_R_op pm_M290 (pc' := 42) (st' := [.int (-1)]) rfl rfl rfl ?_
            exact pm_R_ret pm_M290 (r := some (.int (-1))) rfl rfl (K (-1) m12 w13 h14 T15 F18 W19 (sf_weak sf_kn1 (by decide) (by decide)))
          · have B43 : sf_B 0 49 a1 := sf_leL (Int32.not_lt.mp c41) B40 sf_k49
            refine pm_R_op pm_M174 (pc' := 11) (st' := [.int 1]) rfl rfl rfl ?_
            refine pm_R_br pm_M174 (pc' := 15) rfl rfl ?_
            refine pm_R_ret pm_M174 (r := some (.int 1)) rfl rfl ?_
            show pm_R _ 290 38 [.ref 41, .int a0, .int a1, .int a2, .int a3, .int a4, .int a5, .int r10] [.int 1] _ _
            refine pm_R_br pm_M290 (pc' := 43) (st' := []) rfl rfl ?_
            refine pm_R_lo pm_M290 (pc' := 44) rfl rfl rfl ?_
            refine pm_R_lo pm_M290 (pc' := 45) rfl rfl rfl ?_
            refine rf_R_put pm_M290 T15 (pc' := 48) rfl rfl rfl (by decide) rfl rfl B36 rfl rfl (fun h44 m47 em48 T45 F46 => ?_)
            have F49 := F18.trans F46 (by decide)
            have B50 : sf_B 0 1 (m47 23) := by rw [em48]; exact B36
            have ek51 : (m47 23).toInt = (a0).toInt := by rw [em48]; rfl
            have W52 : rf_W [0, 23, 24, 26, 42, 43, 44] m m47 := by rw [em48]; exact W19.put (by decide)
            refine pm_R_lo pm_M290 (pc' := 49) rfl rfl rfl ?_
            refine pm_R_lo pm_M290 (pc' := 50) rfl rfl rfl ?_
            refine pm_R_lo pm_M290 (pc' := 52) rfl rfl rfl ?_
            refine pm_R_op pm_M290 (pc' := 53) (st' := [.int 1, .int r10, .int a1, .ref 41]) rfl rfl rfl ?_
            refine sf_R_isub pm_M290 (pc' := 54) rfl rfl B22 sf_k1 (by decide) (by decide) (fun z53 e54 B55 => ?_)
            refine pm_R_cv pm_M290 (pc' := 57) (a := 41) (ra := [.int z53, .int a1]) (rest := []) (ls' := [.ref 41, .int a1, .int z53, pm_no, pm_no]) rfl rfl (Or.inl rfl) pm_M241 T45.2.1 rfl (by decide) (Nat.lt_of_lt_of_le (by decide) T45.1) rfl rfl (Nat.le_of_ble_eq_true rfl) rfl rfl ?_
            refine rf_c241 (d := d + 0) T45 B43 (sf_weak B55 (by decide) (by decide)) (fun r56 m58 w59 h60 T61 F62 W63 B57 => ?_)
            have F64 := F49.trans F62 (by decide)
            have W65 : rf_W [0, 23, 24, 26, 42, 43, 44] m m58 := W52.trans W63 (by decide)
            show pm_R _ 290 57 [.ref 41, .int a0, .int a1, .int a2, .int a3, .int a4, .int a5, .int r10] [.int r56] _ _
            refine pm_R_ifc pm_M290 (t := 69) (pc' := 60) rfl rfl rfl (fun c66 => ?_) (fun c66 => ?_)
            · have B67 : sf_B 0 0 r56 := sf_eqL c66 sf_k0
              refine pm_R_op pm_M290 (pc' := 70) (st' := [.int (-1)]) rfl rfl rfl ?_
              exact pm_R_ret pm_M290 (r := some (.int (-1))) rfl rfl (K (-1) m58 w59 h60 T61 F64 W65 (sf_weak sf_kn1 (by decide) (by decide)))
            · have B68 : sf_B 1 1 r56 := sf_neL0 c66 sf_k0 B57
              refine pm_R_lo pm_M290 (pc' := 61) rfl rfl rfl ?_
              refine pm_R_lo pm_M290 (pc' := 63) rfl rfl rfl ?_
              refine pm_R_cv pm_M290 (pc' := 66) (a := 41) (ra := [.int a5]) (rest := []) (ls' := [.ref 41, .int a5]) rfl rfl (Or.inl rfl) pm_M246 T61.2.1 rfl (by decide) (Nat.lt_of_lt_of_le (by decide) T61.1) rfl rfl (Nat.le_of_ble_eq_true rfl) rfl rfl ?_
              refine pm_R_lo pm_M246 (pc' := 1) rfl rfl rfl ?_
              refine pm_R_op pm_M246 (pc' := 2) (st' := [.int 0, .int a5]) rfl rfl rfl ?_
              refine pm_R_lo pm_M246 (pc' := 3) rfl rfl rfl ?_
              refine rf_R_get pm_M246 T61 (pc' := 6) (v := .ref 66) rfl rfl rfl rfl ?_
              refine pm_R_op pm_M246 (pc' := 7) (st' := [.int 0, .ref 66, .int 0, .int a5]) rfl rfl rfl ?_
              obtain ⟨f69, e70, b71⟩ := T61.2.2.2.1 66 (by decide) (by decide)
              refine rf_R_ild pm_M246 T61 (pc' := 8) rfl e70 (by decide) rfl rfl (fun z72 ez73 => ?_)
              have B74 : sf_B 0 4 z72 := ez73 ▸ (b71 0)
              refine pm_R_cs pm_M246 (pc' := 11) (ra := [.int z72, .int 0, .int a5]) (rest := []) (ls' := [.int a5, .int 0, .int z72]) rfl rfl (Or.inl rfl) pm_M174 rfl rfl (Nat.le_of_ble_eq_true rfl) rfl rfl ?_
              refine pm_R_lo pm_M174 (pc' := 1) rfl rfl rfl ?_
              refine pm_R_lo pm_M174 (pc' := 2) rfl rfl rfl ?_
              refine pm_R_icmp pm_M174 (t := 14) (pc' := 5) rfl rfl rfl (fun c75 => ?_) (fun c75 => ?_)
              · have B76 : sf_B (-2147483648) (-1) a5 := sf_ltL c75 (sf_any a5) sf_k0
                refine pm_R_op pm_M174 (pc' := 15) (st' := [.int 0]) rfl rfl rfl ?_
                refine pm_R_ret pm_M174 (r := some (.int 0)) rfl rfl ?_
                show pm_R _ 246 11 [.ref 41, .int a5] [.int 0] _ _
                refine pm_R_br pm_M246 (pc' := 23) (st' := []) rfl rfl ?_
                refine pm_R_op pm_M246 (pc' := 24) (st' := [.int (-1)]) rfl rfl rfl ?_
                refine pm_R_ret pm_M246 (r := some (.int (-1))) rfl rfl ?_
                show pm_R _ 290 66 [.ref 41, .int a0, .int a1, .int a2, .int a3, .int a4, .int a5, .int r10] [.int (-1)] _ _
                refine pm_R_br pm_M290 (pc' := 70) rfl rfl ?_
                exact pm_R_ret pm_M290 (r := some (.int (-1))) rfl rfl (K (-1) m58 w59 h60 T61 F64 W65 (sf_weak sf_kn1 (by decide) (by decide)))
              · have B77 : sf_B 0 2147483647 a5 := sf_leR (Int32.not_lt.mp c75) sf_k0 (sf_any a5)
                refine pm_R_lo pm_M174 (pc' := 6) rfl rfl rfl ?_
                refine pm_R_lo pm_M174 (pc' := 7) rfl rfl rfl ?_
                refine pm_R_icmp pm_M174 (t := 14) (pc' := 10) rfl rfl rfl (fun c78 => ?_) (fun c78 => ?_)
                · have B79 : sf_B 1 2147483647 a5 := sf_ltR c78 B74 B77
                  refine pm_R_op pm_M174 (pc' := 15) (st' := [.int 0]) rfl rfl rfl ?_
                  refine pm_R_ret pm_M174 (r := some (.int 0)) rfl rfl ?_
                  show pm_R _ 246 11 [.ref 41, .int a5] [.int 0] _ _
                  refine pm_R_br pm_M246 (pc' := 23) (st' := []) rfl rfl ?_
                  refine pm_R_op pm_M246 (pc' := 24) (st' := [.int (-1)]) rfl rfl rfl ?_
                  refine pm_R_ret pm_M246 (r := some (.int (-1))) rfl rfl ?_
                  show pm_R _ 290 66 [.ref 41, .int a0, .int a1, .int a2, .int a3, .int a4, .int a5, .int r10] [.int (-1)] _ _
                  refine pm_R_br pm_M290 (pc' := 70) rfl rfl ?_
                  exact pm_R_ret pm_M290 (r := some (.int (-1))) rfl rfl (K (-1) m58 w59 h60 T61 F64 W65 (sf_weak sf_kn1 (by decide) (by decide)))
                · have B80 : sf_B 0 4 a5 := sf_leL (Int32.not_lt.mp c78) B77 B74
                  refine pm_R_op pm_M174 (pc' := 11) (st' := [.int 1]) rfl rfl rfl ?_
                  refine pm_R_br pm_M174 (pc' := 15) rfl rfl ?_
                  refine pm_R_ret pm_M174 (r := some (.int 1)) rfl rfl ?_
                  show pm_R _ 246 11 [.ref 41, .int a5] [.int 1] _ _
                  refine pm_R_br pm_M246 (pc' := 14) (st' := []) rfl rfl ?_
                  refine pm_R_lo pm_M246 (pc' := 15) rfl rfl rfl ?_
                  refine rf_R_get pm_M246 T61 (pc' := 18) (v := .ref 66) rfl rfl rfl rfl ?_
                  refine pm_R_lo pm_M246 (pc' := 19) rfl rfl rfl ?_
                  refine rf_R_ild pm_M246 T61 (pc' := 20) rfl e70 (by decide) (sf_in B80 (by decide) (by decide)) rfl (fun z81 ez82 => ?_)
                  have B83 : sf_B 0 9 z81 := ez82 ▸ (rf_p66 b71 _)
                  refine pm_R_br pm_M246 (pc' := 24) rfl rfl ?_
                  refine pm_R_ret pm_M246 (r := some (.int z81)) rfl (pm_ret_i _) ?_
                  show pm_R _ 290 66 [.ref 41, .int a0, .int a1, .int a2, .int a3, .int a4, .int a5, .int r10] [.int z81] _ _
                  refine pm_R_br pm_M290 (pc' := 70) rfl rfl ?_
                  exact pm_R_ret pm_M290 (r := some (.int z81)) rfl (pm_ret_i _) (K z81 m58 w59 h60 T61 F64 W65 (sf_weak B83 (by decide) (by decide)))

set_option maxRecDepth 100000 in
set_option maxHeartbeats 4000000 in
/-- SilentTableModel.like -/
theorem rf_c293 {d : Nat} {m : Nat → Int32} {w : Int64} {h : pm_H} {Q : Option Value → pm_H → Prop} {a0 : Int32} {a1 : Int32} {a2 : Int32} (T : rf_T m w h)  (K : ∀ (r : Int32) (m' : Nat → Int32) (w' : Int64) (h' : pm_H), rf_T m' w' h' → rf_G [41, 53, 54] h h' → rf_W [0, 23, 24, 26] m m' → sf_B (-1) 50 r → Q (some (.int r)) h') : pm_R (d + 6) 293 0 [.ref 41, .int a0, .int a1, .int a2, pm_no, pm_no] [] h Q := by
  refine pm_R_lo pm_M293 (pc' := 1) rfl rfl rfl ?_
  refine pm_R_op pm_M293 (pc' := 2) (st' := [.int 0, .ref 41]) rfl rfl rfl ?_
  refine rf_R_put pm_M293 T (pc' := 5) rfl rfl rfl (by decide) rfl rfl sf_k0 rfl rfl (fun h1 m4 em5 T2 F3 => ?_)
  have F6 := (rf_G.refl [41, 53, 54] h).trans F3 (by decide)
  have B7 : sf_B 0 0 (m4 0) := by rw [em5]; exact sf_k0
  have W9 : rf_W [0, 23, 24, 26] m m4 := by rw [em5]; exact (rf_W.refl [0, 23, 24, 26] m).put (by decide)
  refine pm_R_lo pm_M293 (pc' := 6) rfl rfl rfl ?_
  refine pm_R_lo pm_M293 (pc' := 7) rfl rfl rfl ?_
  refine pm_R_lo pm_M293 (pc' := 8) rfl rfl rfl ?_
  refine pm_R_cv pm_M293 (pc' := 11) (a := 41) (ra := [.int a1, .int a0]) (rest := []) (ls' := [.ref 41, .int a0, .int a1]) rfl rfl (Or.inl rfl) pm_M200 T2.2.1 rfl (by decide) (Nat.lt_of_lt_of_le (by decide) T2.1) rfl rfl (Nat.le_of_ble_eq_true rfl) rfl rfl ?_
  refine pm_R_lo pm_M200 (pc' := 1) rfl rfl rfl ?_
  refine pm_R_op pm_M200 (pc' := 2) (st' := [.int 0, .ref 41]) rfl rfl rfl ?_
  refine pm_R_lo pm_M200 (pc' := 3) rfl rfl rfl ?_
  refine pm_R_cv pm_M200 (pc' := 6) (a := 41) (ra := [.int a0, .int 0]) (rest := []) (ls' := [.ref 41, .int 0, .int a0]) rfl rfl (Or.inl rfl) pm_M177 T2.2.1 rfl (by decide) (Nat.lt_of_lt_of_le (by decide) T2.1) rfl rfl (Nat.le_of_ble_eq_true rfl) rfl rfl ?_
  refine pm_R_lo pm_M177 (pc' := 1) rfl rfl rfl ?_
  refine pm_R_op pm_M177 (pc' := 2) (st' := [.int 0, .int a0]) rfl rfl rfl ?_
  refine pm_R_lo pm_M177 (pc' := 3) rfl rfl rfl ?_
  refine rf_R_get pm_M177 T2 (pc' := 6) (v := .ref 46) rfl rfl rfl rfl ?_
  refine pm_R_lo pm_M177 (pc' := 7) rfl rfl rfl ?_
  obtain ⟨f10, e11, b12⟩ := T2.2.2.2.1 46 (by decide) (by decide)
  refine rf_R_ild pm_M177 T2 (pc' := 8) rfl e11 (by decide) rfl rfl (fun z13 ez14 => ?_)
  have B15 : sf_B 0 2 z13 := ez14 ▸ (b12 0)
  refine pm_R_op pm_M177 (pc' := 9) (st' := [.int 1, .int z13, .int 0, .int a0]) rfl rfl rfl ?_
  refine sf_R_isub pm_M177 (pc' := 10) rfl rfl B15 sf_k1 (by decide) (by decide) (fun z16 e17 B18 => ?_)
  refine pm_R_cs pm_M177 (pc' := 13) (ra := [.int z16, .int 0, .int a0]) (rest := []) (ls' := [.int a0, .int 0, .int z16]) rfl rfl (Or.inl rfl) pm_M174 rfl rfl (Nat.le_of_ble_eq_true rfl) rfl rfl ?_
  refine pm_R_lo pm_M174 (pc' := 1) rfl rfl rfl ?_
  refine pm_R_lo pm_M174 (pc' := 2) rfl rfl rfl ?_
  refine pm_R_icmp pm_M174 (t := 14) (pc' := 5) rfl rfl rfl (fun c19 => ?_) (fun c19 => ?_)
  · have B20 : sf_B (-2147483648) (-1) a0 := sf_ltL c19 (sf_any a0) sf_k0
    refine pm_R_op pm_M174 (pc' := 15) (st' := [.int 0]) rfl rfl rfl ?_
    refine pm_R_ret pm_M174 (r := some (.int 0)) rfl rfl ?_
    show pm_R _ 177 13 [.ref 41, .int 0, .int a0] [.int 0] _ _
    refine pm_R_ret pm_M177 (r := some (.int 0)) rfl rfl ?_
    show pm_R _ 200 6 [.ref 41, .int a0, .int a1] [.int 0] _ _
    refine pm_R_br pm_M200 (pc' := 18) (st' := []) rfl rfl ?_
    refine pm_R_op pm_M200 (pc' := 19) (st' := [.int 0]) rfl rfl rfl ?_
    refine pm_R_ret pm_M200 (r := some (.int 0)) rfl rfl ?_
    show pm_R _ 293 11 [.ref 41, .int a0, .int a1, .int a2, pm_no, pm_no] [.int 0] _ _
    refine pm_R_br pm_M293 (pc' := 23) (st' := []) rfl rfl ?_
    refine pm_R_op pm_M293 (pc' := 24) (st' := [.int (-1)]) rfl rfl rfl ?_
    exact pm_R_ret pm_M293 (r := some (.int (-1))) rfl rfl (K (-1) m4 w h1 T2 F6 W9 (sf_weak sf_kn1 (by decide) (by decide)))
  · have B21 : sf_B 0 2147483647 a0 := sf_leR (Int32.not_lt.mp c19) sf_k0 (sf_any a0)
    refine pm_R_lo pm_M174 (pc' := 6) rfl rfl rfl ?_
    refine pm_R_lo pm_M174 (pc' := 7) rfl rfl rfl ?_
    refine pm_R_icmp pm_M174 (t := 14) (pc' := 10) rfl rfl rfl (fun c22 => ?_) (fun c22 => ?_)
    · skip
      refine pm_R_op pm_M174 (pc' := 15) (st' := [.int 0]) rfl rfl rfl ?_
      refine pm_R_ret pm_M174 (r := some (.int 0)) rfl rfl ?_
      show pm_R _ 177 13 [.ref 41, .int 0, .int a0] [.int 0] _ _
      refine pm_R_ret pm_M177 (r := some (.int 0)) rfl rfl ?_
      show pm_R _ 200 6 [.ref 41, .int a0, .int a1] [.int 0] _ _
      refine pm_R_br pm_M200 (pc' := 18) (st' := []) rfl rfl ?_
      refine pm_R_op pm_M200 (pc' := 19) (st' := [.int 0]) rfl rfl rfl ?_
      refine pm_R_ret pm_M200 (r := some (.int 0)) rfl rfl ?_
      show pm_R _ 293 11 [.ref 41, .int a0, .int a1, .int a2, pm_no, pm_no] [.int 0] _ _
      refine pm_R_br pm_M293 (pc' := 23) (st' := []) rfl rfl ?_
      refine pm_R_op pm_M293 (pc' := 24) (st' := [.int (-1)]) rfl rfl rfl ?_
      exact pm_R_ret pm_M293 (r := some (.int (-1))) rfl rfl (K (-1) m4 w h1 T2 F6 W9 (sf_weak sf_kn1 (by decide) (by decide)))
    · have B23 : sf_B 0 1 a0 := sf_leL (Int32.not_lt.mp c22) B21 B18
      have B24 : sf_B 0 1 z16 := sf_leR (Int32.not_lt.mp c22) B21 B18
      refine pm_R_op pm_M174 (pc' := 11) (st' := [.int 1]) rfl rfl rfl ?_
      refine pm_R_br pm_M174 (pc' := 15) rfl rfl ?_
      refine pm_R_ret pm_M174 (r := some (.int 1)) rfl rfl ?_
      show pm_R _ 177 13 [.ref 41, .int 0, .int a0] [.int 1] _ _
      refine pm_R_ret pm_M177 (r := some (.int 1)) rfl rfl ?_
      show pm_R _ 200 6 [.ref 41, .int a0, .int a1] [.int 1] _ _
      refine pm_R_br pm_M200 (pc' := 9) (st' := []) rfl rfl ?_
      refine pm_R_lo pm_M200 (pc' := 10) rfl rfl rfl ?_
      refine pm_R_op pm_M200 (pc' := 11) (st' := [.int 1, .ref 41]) rfl rfl rfl ?_
      refine pm_R_lo pm_M200 (pc' := 12) rfl rfl rfl ?_
      refine pm_R_cv pm_M200 (pc' := 15) (a := 41) (ra := [.int a1, .int 1]) (rest := []) (ls' := [.ref 41, .int 1, .int a1]) rfl rfl (Or.inl rfl) pm_M177 T2.2.1 rfl (by decide) (Nat.lt_of_lt_of_le (by decide) T2.1) rfl rfl (Nat.le_of_ble_eq_true rfl) rfl rfl ?_
      refine pm_R_lo pm_M177 (pc' := 1) rfl rfl rfl ?_
      refine pm_R_op pm_M177 (pc' := 2) (st' := [.int 0, .int a1]) rfl rfl rfl ?_
      refine pm_R_lo pm_M177 (pc' := 3) rfl rfl rfl ?_
      refine rf_R_get pm_M177 T2 (pc' := 6) (v := .ref 46) rfl rfl rfl rfl ?_
      refine pm_R_lo pm_M177 (pc' := 7) rfl rfl rfl ?_
      refine rf_R_ild pm_M177 T2 (pc' := 8) rfl e11 (by decide) rfl rfl (fun z25 ez26 => ?_)
      have B27 : sf_B 0 3 z25 := ez26 ▸ (b12 1)
      refine pm_R_op pm_M177 (pc' := 9) (st' := [.int 1, .int z25, .int 0, .int a1]) rfl rfl rfl ?_
      refine sf_R_isub pm_M177 (pc' := 10) rfl rfl B27 sf_k1 (by decide) (by decide) (fun z28 e29 B30 => ?_)
      refine pm_R_cs pm_M177 (pc' := 13) (ra := [.int z28, .int 0, .int a1]) (rest := []) (ls' := [.int a1, .int 0, .int z28]) rfl rfl (Or.inl rfl) pm_M174 rfl rfl (Nat.le_of_ble_eq_true rfl) rfl rfl ?_
      refine pm_R_lo pm_M174 (pc' := 1) rfl rfl rfl ?_
      refine pm_R_lo pm_M174 (pc' := 2) rfl rfl rfl ?_
      refine pm_R_icmp pm_M174 (t := 14) (pc' := 5) rfl rfl rfl (fun c31 => ?_) (fun c31 => ?_)
      · have B32 : sf_B (-2147483648) (-1) a1 := sf_ltL c31 (sf_any a1) sf_k0
        refine pm_R_op pm_M174 (pc' := 15) (st' := [.int 0]) rfl rfl rfl ?_
        refine pm_R_ret pm_M174 (r := some (.int 0)) rfl rfl ?_
        show pm_R _ 177 13 [.ref 41, .int 1, .int a1] [.int 0] _ _
        refine pm_R_ret pm_M177 (r := some (.int 0)) rfl rfl ?_
        show pm_R _ 200 15 [.ref 41, .int a0, .int a1] [.int 0] _ _
        refine pm_R_br pm_M200 (pc' := 18) (st' := []) rfl rfl ?_
        refine pm_R_op pm_M200 (pc' := 19) (st' := [.int 0]) rfl rfl rfl ?_
        refine pm_R_ret pm_M200 (r := some (.int 0)) rfl rfl ?_
        show pm_R _ 293 11 [.ref 41, .int a0, .int a1, .int a2, pm_no, pm_no] [.int 0] _ _
        refine pm_R_br pm_M293 (pc' := 23) (st' := []) rfl rfl ?_
        refine pm_R_op pm_M293 (pc' := 24) (st' := [.int (-1)]) rfl rfl rfl ?_
        exact pm_R_ret pm_M293 (r := some (.int (-1))) rfl rfl (K (-1) m4 w h1 T2 F6 W9 (sf_weak sf_kn1 (by decide) (by decide)))
      · have B33 : sf_B 0 2147483647 a1 := sf_leR (Int32.not_lt.mp c31) sf_k0 (sf_any a1)
        refine pm_R_lo pm_M174 (pc' := 6) rfl rfl rfl ?_
        refine pm_R_lo pm_M174 (pc' := 7) rfl rfl rfl ?_
        refine pm_R_icmp pm_M174 (t := 14) (pc' := 10) rfl rfl rfl (fun c34 => ?_) (fun c34 => ?_)
        · skip
          refine pm_R_op pm_M174 (pc' := 15) (st' := [.int 0]) rfl rfl rfl ?_
          refine pm_R_ret pm_M174 (r := some (.int 0)) rfl rfl ?_
          show pm_R _ 177 13 [.ref 41, .int 1, .int a1] [.int 0] _ _
          refine pm_R_ret pm_M177 (r := some (.int 0)) rfl rfl ?_
          show pm_R _ 200 15 [.ref 41, .int a0, .int a1] [.int 0] _ _
          refine pm_R_br pm_M200 (pc' := 18) (st' := []) rfl rfl ?_
          refine pm_R_op pm_M200 (pc' := 19) (st' := [.int 0]) rfl rfl rfl ?_
          refine pm_R_ret pm_M200 (r := some (.int 0)) rfl rfl ?_
          show pm_R _ 293 11 [.ref 41, .int a0, .int a1, .int a2, pm_no, pm_no] [.int 0] _ _
          refine pm_R_br pm_M293 (pc' := 23) (st' := []) rfl rfl ?_
          refine pm_R_op pm_M293 (pc' := 24) (st' := [.int (-1)]) rfl rfl rfl ?_
          exact pm_R_ret pm_M293 (r := some (.int (-1))) rfl rfl (K (-1) m4 w h1 T2 F6 W9 (sf_weak sf_kn1 (by decide) (by decide)))
        · have V35 := rf_V.mk e11 ez26 e29 (Int32.not_lt.mp c34) B33 (by decide)
          have V35 := V35.back F6 (by decide)
          have B36 : sf_B 0 2 a1 := sf_leL (Int32.not_lt.mp c34) B33 B30
          have B37 : sf_B 0 2 z28 := sf_leR (Int32.not_lt.mp c34) B33 B30
          refine pm_R_op pm_M174 (pc' := 11) (st' := [.int 1]) rfl rfl rfl ?_
          refine pm_R_br pm_M174 (pc' := 15) rfl rfl ?_
          refine pm_R_ret pm_M174 (r := some (.int 1)) rfl rfl ?_
          show pm_R _ 177 13 [.ref 41, .int 1, .int a1] [.int 1] _ _
          refine pm_R_ret pm_M177 (r := some (.int 1)) rfl rfl ?_
          show pm_R _ 200 15 [.ref 41, .int a0, .int a1] [.int 1] _ _
          refine pm_R_br pm_M200 (pc' := 20) (st' := []) rfl rfl ?_
          refine pm_R_lo pm_M200 (pc' := 21) rfl rfl rfl ?_
          refine pm_R_lo pm_M200 (pc' := 22) rfl rfl rfl ?_
          refine pm_R_lo pm_M200 (pc' := 23) rfl rfl rfl ?_
          refine pm_R_cv pm_M200 (pc' := 26) (a := 41) (ra := [.int a1, .int a0]) (rest := []) (ls' := [.ref 41, .int a0, .int a1, pm_no]) rfl rfl (Or.inl rfl) pm_M201 T2.2.1 rfl (by decide) (Nat.lt_of_lt_of_le (by decide) T2.1) rfl rfl (Nat.le_of_ble_eq_true rfl) rfl rfl ?_
          refine rf_c201 (d := d + 4) T2 B23 B36 (V35.F F6 (by decide)) (fun m40 w41 h42 T43 F44 W45 X46 B47 => ?_)
          have F48 := F6.trans F44 (by decide)
          have W49 : rf_W [0, 23, 24, 26] m m40 := W9.trans W45 (by decide)
          show pm_R _ 200 26 [.ref 41, .int a0, .int a1] [] _ _
          refine pm_R_op pm_M200 (pc' := 27) (st' := [.int 1]) rfl rfl rfl ?_
          refine pm_R_ret pm_M200 (r := some (.int 1)) rfl rfl ?_
          show pm_R _ 293 11 [.ref 41, .int a0, .int a1, .int a2, pm_no, pm_no] [.int 1] _ _
          refine pm_R_br pm_M293 (pc' := 14) (st' := []) rfl rfl ?_
          refine pm_R_lo pm_M293 (pc' := 15) rfl rfl rfl ?_
          refine pm_R_op pm_M293 (pc' := 16) (st' := [.int 1, .ref 41]) rfl rfl rfl ?_
          refine pm_R_lo pm_M293 (pc' := 17) rfl rfl rfl ?_
          refine pm_R_cv pm_M293 (pc' := 20) (a := 41) (ra := [.int a2, .int 1]) (rest := []) (ls' := [.ref 41, .int 1, .int a2]) rfl rfl (Or.inl rfl) pm_M177 T43.2.1 rfl (by decide) (Nat.lt_of_lt_of_le (by decide) T43.1) rfl rfl (Nat.le_of_ble_eq_true rfl) rfl rfl ?_
          refine pm_R_lo pm_M177 (pc' := 1) rfl rfl rfl ?_
          refine pm_R_op pm_M177 (pc' := 2) (st' := [.int 0, .int a2]) rfl rfl rfl ?_
          refine pm_R_lo pm_M177 (pc' := 3) rfl rfl rfl ?_
          refine rf_R_get pm_M177 T43 (pc' := 6) (v := .ref 46) rfl rfl rfl rfl ?_
          refine pm_R_lo pm_M177 (pc' := 7) rfl rfl rfl ?_
          have e50 := (F44.cell (by decide) e11)
          refine pm_R_iald pm_M177 (pc' := 8) (v := z25) rfl e50 (Nat.lt_of_lt_of_le (by decide) T43.1) rfl ez26 rfl ?_
          refine pm_R_op pm_M177 (pc' := 9) (st' := [.int 1, .int z25, .int 0, .int a2]) rfl rfl rfl ?_
          refine sf_R_isubV pm_M177 (pc' := 10) rfl rfl B27 sf_k1 (by decide) (by decide) e29 ?_
          refine pm_R_cs pm_M177 (pc' := 13) (ra := [.int z28, .int 0, .int a2]) (rest := []) (ls' := [.int a2, .int 0, .int z28]) rfl rfl (Or.inl rfl) pm_M174 rfl rfl (Nat.le_of_ble_eq_true rfl) rfl rfl ?_
          refine pm_R_lo pm_M174 (pc' := 1) rfl rfl rfl ?_
          refine pm_R_lo pm_M174 (pc' := 2) rfl rfl rfl ?_
          refine pm_R_icmp pm_M174 (t := 14) (pc' := 5) rfl rfl rfl (fun c53 => ?_) (fun c53 => ?_)
          · have B54 : sf_B (-2147483648) (-1) a2 := sf_ltL c53 (sf_any a2) sf_k0
            refine pm_R_op pm_M174 (pc' := 15) (st' := [.int 0]) rfl rfl rfl ?_
            refine pm_R_ret pm_M174 (r := some (.int 0)) rfl rfl ?_
            show pm_R _ 177 13 [.ref 41, .int 1, .int a2] [.int 0] _ _
            refine pm_R_ret pm_M177 (r := some (.int 0)) rfl rfl ?_
            show pm_R _ 293 20 [.ref 41, .int a0, .int a1, .int a2, pm_no, pm_no] [.int 0] _ _
            refine pm_R_br pm_M293 (pc' := 23) (st' := []) rfl rfl ?_
            refine pm_R_op pm_M293 (pc' := 24) (st' := [.int (-1)]) rfl rfl rfl ?_
            exact pm_R_ret pm_M293 (r := some (.int (-1))) rfl rfl (K (-1) m40 w41 h42 T43 F48 W49 (sf_weak sf_kn1 (by decide) (by decide)))
          · have B55 : sf_B 0 2147483647 a2 := sf_leR (Int32.not_lt.mp c53) sf_k0 (sf_any a2)
            refine pm_R_lo pm_M174 (pc' := 6) rfl rfl rfl ?_
            refine pm_R_lo pm_M174 (pc' := 7) rfl rfl rfl ?_
            refine pm_R_icmp pm_M174 (t := 14) (pc' := 10) rfl rfl rfl (fun c56 => ?_) (fun c56 => ?_)
            · have B57 : sf_B 1 2147483647 a2 := sf_ltR c56 B37 B55
              refine pm_R_op pm_M174 (pc' := 15) (st' := [.int 0]) rfl rfl rfl ?_
              refine pm_R_ret pm_M174 (r := some (.int 0)) rfl rfl ?_
              show pm_R _ 177 13 [.ref 41, .int 1, .int a2] [.int 0] _ _
              refine pm_R_ret pm_M177 (r := some (.int 0)) rfl rfl ?_
              show pm_R _ 293 20 [.ref 41, .int a0, .int a1, .int a2, pm_no, pm_no] [.int 0] _ _
              refine pm_R_br pm_M293 (pc' := 23) (st' := []) rfl rfl ?_
              refine pm_R_op pm_M293 (pc' := 24) (st' := [.int (-1)]) rfl rfl rfl ?_
              exact pm_R_ret pm_M293 (r := some (.int (-1))) rfl rfl (K (-1) m40 w41 h42 T43 F48 W49 (sf_weak sf_kn1 (by decide) (by decide)))
            · have V58 := rf_V.mk e50 ez26 e29 (Int32.not_lt.mp c56) B55 (by decide)
              have V58 := V58.back F48 (by decide)
              have B59 : sf_B 0 2 a2 := sf_leL (Int32.not_lt.mp c56) B55 B37
              refine pm_R_op pm_M174 (pc' := 11) (st' := [.int 1]) rfl rfl rfl ?_
              refine pm_R_br pm_M174 (pc' := 15) rfl rfl ?_
              refine pm_R_ret pm_M174 (r := some (.int 1)) rfl rfl ?_
              show pm_R _ 177 13 [.ref 41, .int 1, .int a2] [.int 1] _ _
              refine pm_R_ret pm_M177 (r := some (.int 1)) rfl rfl ?_
              show pm_R _ 293 20 [.ref 41, .int a0, .int a1, .int a2, pm_no, pm_no] [.int 1] _ _
              refine pm_R_br pm_M293 (pc' := 25) (st' := []) rfl rfl ?_
              refine pm_R_lo pm_M293 (pc' := 26) rfl rfl rfl ?_
              refine pm_R_cv pm_M293 (pc' := 29) (a := 41) (ra := []) (rest := []) (ls' := [.ref 41]) rfl rfl (Or.inl rfl) pm_M215 T43.2.1 rfl (by decide) (Nat.lt_of_lt_of_le (by decide) T43.1) rfl rfl (Nat.le_of_ble_eq_true rfl) rfl rfl ?_
              refine rf_c215 (d := d + 0) T43 B47 (fun r60 m62 w63 h64 T65 F66 W67 => ?_)
              have F68 := F48.trans F66 (by decide)
              have B69 : sf_B 1 12 (m62 24) := by rw [W67 24 (by decide)]; exact B47
              have W70 : rf_W [0, 23, 24, 26] m m62 := W49.trans W67 (by decide)
              show pm_R _ 293 29 [.ref 41, .int a0, .int a1, .int a2, pm_no, pm_no] [.long r60] _ _
              refine pm_R_lo pm_M293 (pc' := 31) (ls' := [.ref 41, .int a0, .int a1, .int a2, .long r60, pm_no]) (st' := []) rfl rfl rfl ?_
              refine pm_R_lo pm_M293 (pc' := 32) rfl rfl rfl ?_
              refine pm_R_lo pm_M293 (pc' := 33) rfl rfl rfl ?_
              refine pm_R_lo pm_M293 (pc' := 34) rfl rfl rfl ?_
              refine pm_R_cv pm_M293 (pc' := 37) (a := 41) (ra := [.int a2, .int a0]) (rest := []) (ls' := [.ref 41, .int a0, .int a2, pm_no]) rfl rfl (Or.inl rfl) pm_M201 T65.2.1 rfl (by decide) (Nat.lt_of_lt_of_le (by decide) T65.1) rfl rfl (Nat.le_of_ble_eq_true rfl) rfl rfl ?_
              refine rf_c201 (d := d + 5) T65 B23 B59 (V58.F F68 (by decide)) (fun m73 w74 h75 T76 F77 W78 X79 B80 => ?_)
              have F81 := F68.trans F77 (by decide)
              have W82 : rf_W [0, 23, 24, 26] m m73 := W70.trans W78 (by decide)
              show pm_R _ 293 37 [.ref 41, .int a0, .int a1, .int a2, .long r60, pm_no] [] _ _
              refine pm_R_lo pm_M293 (pc' := 39) rfl rfl rfl ?_
              refine pm_R_lo pm_M293 (pc' := 40) rfl rfl rfl ?_
              refine pm_R_cv pm_M293 (pc' := 43) (a := 41) (ra := []) (rest := [.long r60]) (ls' := [.ref 41]) rfl rfl (Or.inl rfl) pm_M215 T76.2.1 rfl (by decide) (Nat.lt_of_lt_of_le (by decide) T76.1) rfl rfl (Nat.le_of_ble_eq_true rfl) rfl rfl ?_
              refine rf_c215 (d := d + 0) T76 B80 (fun r83 m85 w86 h87 T88 F89 W90 => ?_)
              have F91 := F81.trans F89 (by decide)
              have B92 : sf_B 1 12 (m85 24) := by rw [W90 24 (by decide)]; exact B80
              have W93 : rf_W [0, 23, 24, 26] m m85 := W82.trans W90 (by decide)
              show pm_R _ 293 43 [.ref 41, .int a0, .int a1, .int a2, .long r60, pm_no] [.long r83, .long r60] _ _
              refine sf_R_lany pm_M293 (pc' := 44) (st := []) rfl rfl rfl (fun z94 => ?_)
              refine pm_R_cs pm_M293 (pc' := 47) (ra := [.long z94]) (rest := []) (ls' := [.long z94, pm_no, pm_no, pm_no]) rfl rfl (Or.inl rfl) pm_M222 rfl rfl (Nat.le_of_ble_eq_true rfl) rfl rfl ?_
              refine rf_c222 (d := d + 4)  (fun r95 B96 => ?_)
              show pm_R _ 293 47 [.ref 41, .int a0, .int a1, .int a2, .long r60, pm_no] [.int r95] _ _
              exact pm_R_ret pm_M293 (r := some (.int r95)) rfl (pm_ret_i _) (K r95 m85 w86 h87 T88 F91 W93 (sf_weak B96 (by decide) (by decide)))

set_option maxRecDepth 100000 in
set_option maxHeartbeats 4000000 in
/-- SilentTableModel.caught -/
theorem rf_c260 {d : Nat} {m : Nat → Int32} {w : Int64} {h : pm_H} {Q : Option Value → pm_H → Prop} {a0 : Int32} {a1 : Int32} {a2 : Int32} {a3 : Int32} (T : rf_T m w h)  (K : ∀ (r : Int32) (m' : Nat → Int32) (w' : Int64) (h' : pm_H), rf_T m' w' h' → rf_G [41, 67, 68, 69] h h' → rf_W [0, 42, 43, 44, 47] m m' → Q (some (.int r)) h') : pm_R (d + 4) 260 0 [.ref 41, .int a0, .int a1, .int a2, .int a3] [] h Q := by
  refine pm_R_lo pm_M260 (pc' := 1) rfl rfl rfl ?_
  refine pm_R_op pm_M260 (pc' := 2) (st' := [.int 0, .ref 41]) rfl rfl rfl ?_
  refine rf_R_put pm_M260 T (pc' := 5) rfl rfl rfl (by decide) rfl rfl sf_k0 rfl rfl (fun h1 m4 em5 T2 F3 => ?_)
  have F6 := (rf_G.refl [41, 67, 68, 69] h).trans F3 (by decide)
  have B7 : sf_B 0 0 (m4 0) := by rw [em5]; exact sf_k0
  have W9 : rf_W [0, 42, 43, 44, 47] m m4 := by rw [em5]; exact (rf_W.refl [0, 42, 43, 44, 47] m).put (by decide)
  refine pm_R_lo pm_M260 (pc' := 6) rfl rfl rfl ?_
  refine pm_R_lo pm_M260 (pc' := 7) rfl rfl rfl ?_
  refine pm_R_lo pm_M260 (pc' := 8) rfl rfl rfl ?_
  refine pm_R_lo pm_M260 (pc' := 9) rfl rfl rfl ?_
  refine pm_R_cv pm_M260 (pc' := 12) (a := 41) (ra := [.int a2, .int a1, .int a0]) (rest := []) (ls' := [.ref 41, .int a0, .int a1, .int a2, pm_no]) rfl rfl (Or.inl rfl) pm_M261 T2.2.1 rfl (by decide) (Nat.lt_of_lt_of_le (by decide) T2.1) rfl rfl (Nat.le_of_ble_eq_true rfl) rfl rfl ?_
  refine rf_c261 (d := d + 0) T2  (fun r10 m12 w13 h14 T15 F16 W17 B11 => ?_)
  have F18 := F6.trans F16 (by decide)
  have W19 : rf_W [0, 42, 43, 44, 47] m m12 := W9.trans W17 (by decide)
  show pm_R _ 260 12 [.ref 41, .int a0, .int a1, .int a2, .int a3] [.int r10] _ _
  refine pm_R_ifc pm_M260 (t := 18) (pc' := 15) rfl rfl rfl (fun c20 => ?_) (fun c20 => ?_)
  · have B21 : sf_B 1 1 r10 := sf_neL0 c20 sf_k0 B11
    refine pm_R_lo pm_M260 (pc' := 20) rfl rfl rfl ?_
    refine pm_R_op pm_M260 (pc' := 21) (st' := [.int (-1), .int a3]) rfl rfl rfl ?_
    refine pm_R_icmp pm_M260 (t := 31) (pc' := 24) rfl rfl rfl (fun c22 => ?_) (fun c22 => ?_)
    · skip
      refine pm_R_lo pm_M260 (pc' := 33) rfl rfl rfl ?_
      refine pm_R_op pm_M260 (pc' := 34) (st' := [.int 0, .int a3]) rfl rfl rfl ?_
      refine pm_R_lo pm_M260 (pc' := 35) rfl rfl rfl ?_
      have B23 : sf_B 0 50 (m12 47) := T15.2.2.1 47
      refine rf_R_get pm_M260 T15 (pc' := 38) (v := .int (m12 47)) rfl rfl rfl rfl ?_
      refine pm_R_op pm_M260 (pc' := 39) (st' := [.int 1, .int (m12 47), .int 0, .int a3]) rfl rfl rfl ?_
      refine sf_R_isub pm_M260 (pc' := 40) rfl rfl B23 sf_k1 (by decide) (by decide) (fun z24 e25 B26 => ?_)
      refine pm_R_cs pm_M260 (pc' := 43) (ra := [.int z24, .int 0, .int a3]) (rest := []) (ls' := [.int a3, .int 0, .int z24]) rfl rfl (Or.inl rfl) pm_M174 rfl rfl (Nat.le_of_ble_eq_true rfl) rfl rfl ?_
      refine pm_R_lo pm_M174 (pc' := 1) rfl rfl rfl ?_
      refine pm_R_lo pm_M174 (pc' := 2) rfl rfl rfl ?_
      refine pm_R_icmp pm_M174 (t := 14) (pc' := 5) rfl rfl rfl (fun c27 => ?_) (fun c27 => ?_)
      · have B28 : sf_B (-2147483648) (-1) a3 := sf_ltL c27 (sf_any a3) sf_k0
        refine pm_R_op pm_M174 (pc' := 15) (st' := [.int 0]) rfl rfl rfl ?_
        refine pm_R_ret pm_M174 (r := some (.int 0)) rfl rfl ?_
        show pm_R _ 260 43 [.ref 41, .int a0, .int a1, .int a2, .int a3] [.int 0] _ _
        refine pm_R_br pm_M260 (pc' := 56) (st' := []) rfl rfl ?_
        refine pm_R_op pm_M260 (pc' := 58) (st' := [.int (-2)]) rfl rfl rfl ?_
        exact pm_R_ret pm_M260 (r := some (.int (-2))) rfl rfl (K (-2) m12 w13 h14 T15 F18 W19)
      · have B29 : sf_B 0 2147483647 a3 := sf_leR (Int32.not_lt.mp c27) sf_k0 (sf_any a3)
        refine pm_R_lo pm_M174 (pc' := 6) rfl rfl rfl ?_
        refine pm_R_lo pm_M174 (pc' := 7) rfl rfl rfl ?_
        refine pm_R_icmp pm_M174 (t := 14) (pc' := 10) rfl rfl rfl (fun c30 => ?_) (fun c30 => ?_)
        · skip
          refine pm_R_op pm_M174 (pc' := 15) (st' := [.int 0]) rfl rfl rfl ?_
          refine pm_R_ret pm_M174 (r := some (.int 0)) rfl rfl ?_
          show pm_R _ 260 43 [.ref 41, .int a0, .int a1, .int a2, .int a3] [.int 0] _ _
          refine pm_R_br pm_M260 (pc' := 56) (st' := []) rfl rfl ?_
          refine pm_R_op pm_M260 (pc' := 58) (st' := [.int (-2)]) rfl rfl rfl ?_
          exact pm_R_ret pm_M260 (r := some (.int (-2))) rfl rfl (K (-2) m12 w13 h14 T15 F18 W19)
        · have B31 : sf_B 0 49 a3 := sf_leL (Int32.not_lt.mp c30) B29 B26
          have B32 : sf_B 0 49 z24 := sf_leR (Int32.not_lt.mp c30) B29 B26
          refine pm_R_op pm_M174 (pc' := 11) (st' := [.int 1]) rfl rfl rfl ?_
          refine pm_R_br pm_M174 (pc' := 15) rfl rfl ?_
          refine pm_R_ret pm_M174 (r := some (.int 1)) rfl rfl ?_
          show pm_R _ 260 43 [.ref 41, .int a0, .int a1, .int a2, .int a3] [.int 1] _ _
          refine pm_R_br pm_M260 (pc' := 46) (st' := []) rfl rfl ?_
          refine pm_R_lo pm_M260 (pc' := 47) rfl rfl rfl ?_
          refine rf_R_get pm_M260 T15 (pc' := 50) (v := .ref 69) rfl rfl rfl rfl ?_
          refine pm_R_lo pm_M260 (pc' := 52) rfl rfl rfl ?_
          obtain ⟨f33, e34⟩ := T15.2.2.2.1 69 (by decide) (by decide)
          refine rf_R_ild pm_M260 T15 (pc' := 53) rfl e34 (by decide) (sf_in B31 (by decide) (by decide)) rfl (fun z36 ez37 => ?_)
          refine pm_R_br pm_M260 (pc' := 58) rfl rfl ?_
          exact pm_R_ret pm_M260 (r := some (.int z36)) rfl (pm_ret_i _) (K z36 m12 w13 h14 T15 F18 W19)
    · have B38 : sf_B (-1) (-1) a3 := sf_eqL (Classical.not_not.mp c22) sf_kn1
      refine pm_R_lo pm_M260 (pc' := 25) rfl rfl rfl ?_
      have B39 : sf_B 0 50 (m12 47) := T15.2.2.1 47
      refine rf_R_get pm_M260 T15 (pc' := 28) (v := .int (m12 47)) rfl rfl rfl rfl ?_
      refine pm_R_br pm_M260 (pc' := 58) rfl rfl ?_
      exact pm_R_ret pm_M260 (r := some (.int (m12 47))) rfl (pm_ret_i _) (K (m12 47) m12 w13 h14 T15 F18 W19)
  · have B40 : sf_B 0 0 r10 := sf_eqL (Classical.not_not.mp c20) sf_k0
    refine pm_R_op pm_M260 (pc' := 17) (st' := [.int (-2)]) rfl rfl rfl ?_
    exact pm_R_ret pm_M260 (r := some (.int (-2))) rfl rfl (K (-2) m12 w13 h14 T15 F18 W19)

set_option maxRecDepth 100000 in
set_option maxHeartbeats 4000000 in
/-- SilentTableModel.knows -/
theorem rf_c262 {d : Nat} {m : Nat → Int32} {w : Int64} {h : pm_H} {Q : Option Value → pm_H → Prop} {a0 : Int32} {a1 : Int32} {a2 : Int32} {a3 : Int32} {a4 : Int32} (T : rf_T m w h)  (K : ∀ (r : Int32) (m' : Nat → Int32) (w' : Int64) (h' : pm_H), rf_T m' w' h' → rf_G [41, 53, 54, 67, 68, 69] h h' → rf_W [0, 23, 24, 26, 42, 43, 44, 47] m m' → sf_B (-2) 50 r → Q (some (.int r)) h') : pm_R (d + 7) 262 0 [.ref 41, .int a0, .int a1, .int a2, .int a3, .int a4] [] h Q := by
  refine pm_R_lo pm_M262 (pc' := 1) rfl rfl rfl ?_
  refine pm_R_op pm_M262 (pc' := 2) (st' := [.int 0, .ref 41]) rfl rfl rfl ?_
  refine rf_R_put pm_M262 T (pc' := 5) rfl rfl rfl (by decide) rfl rfl sf_k0 rfl rfl (fun h1 m4 em5 T2 F3 => ?_)
  have F6 := (rf_G.refl [41, 53, 54, 67, 68, 69] h).trans F3 (by decide)
  have B7 : sf_B 0 0 (m4 0) := by rw [em5]; exact sf_k0
  have W9 : rf_W [0, 23, 24, 26, 42, 43, 44, 47] m m4 := by rw [em5]; exact (rf_W.refl [0, 23, 24, 26, 42, 43, 44, 47] m).put (by decide)
  refine pm_R_lo pm_M262 (pc' := 6) rfl rfl rfl ?_
  refine pm_R_op pm_M262 (pc' := 7) (st' := [.int 0, .ref 41]) rfl rfl rfl ?_
  refine pm_R_lo pm_M262 (pc' := 8) rfl rfl rfl ?_
  refine pm_R_cv pm_M262 (pc' := 11) (a := 41) (ra := [.int a0, .int 0]) (rest := []) (ls' := [.ref 41, .int 0, .int a0]) rfl rfl (Or.inl rfl) pm_M177 T2.2.1 rfl (by decide) (Nat.lt_of_lt_of_le (by decide) T2.1) rfl rfl (Nat.le_of_ble_eq_true rfl) rfl rfl ?_
  refine pm_R_lo pm_M177 (pc' := 1) rfl rfl rfl ?_
  refine pm_R_op pm_M177 (pc' := 2) (st' := [.int 0, .int a0]) rfl rfl rfl ?_
  refine pm_R_lo pm_M177 (pc' := 3) rfl rfl rfl ?_
  refine rf_R_get pm_M177 T2 (pc' := 6) (v := .ref 46) rfl rfl rfl rfl ?_
  refine pm_R_lo pm_M177 (pc' := 7) rfl rfl rfl ?_
  obtain ⟨f10, e11, b12⟩ := T2.2.2.2.1 46 (by decide) (by decide)
  refine rf_R_ild pm_M177 T2 (pc' := 8) rfl e11 (by decide) rfl rfl (fun z13 ez14 => ?_)
  have B15 : sf_B 0 2 z13 := ez14 ▸ (b12 0)
  refine pm_R_op pm_M177 (pc' := 9) (st' := [.int 1, .int z13, .int 0, .int a0]) rfl rfl rfl ?_
  refine sf_R_isub pm_M177 (pc' := 10) rfl rfl B15 sf_k1 (by decide) (by decide) (fun z16 e17 B18 => ?_)
  refine pm_R_cs pm_M177 (pc' := 13) (ra := [.int z16, .int 0, .int a0]) (rest := []) (ls' := [.int a0, .int 0, .int z16]) rfl rfl (Or.inl rfl) pm_M174 rfl rfl (Nat.le_of_ble_eq_true rfl) rfl rfl ?_
  refine pm_R_lo pm_M174 (pc' := 1) rfl rfl rfl ?_
  refine pm_R_lo pm_M174 (pc' := 2) rfl rfl rfl ?_
  refine pm_R_icmp pm_M174 (t := 14) (pc' := 5) rfl rfl rfl (fun c19 => ?_) (fun c19 => ?_)
  · have B20 : sf_B (-2147483648) (-1) a0 := sf_ltL c19 (sf_any a0) sf_k0
    refine pm_R_op pm_M174 (pc' := 15) (st' := [.int 0]) rfl rfl rfl ?_
    refine pm_R_ret pm_M174 (r := some (.int 0)) rfl rfl ?_
    show pm_R _ 177 13 [.ref 41, .int 0, .int a0] [.int 0] _ _
    refine pm_R_ret pm_M177 (r := some (.int 0)) rfl rfl ?_
    show pm_R _ 262 11 [.ref 41, .int a0, .int a1, .int a2, .int a3, .int a4] [.int 0] _ _
    refine pm_R_br pm_M262 (pc' := 38) (st' := []) rfl rfl ?_
    refine pm_R_op pm_M262 (pc' := 40) (st' := [.int (-2)]) rfl rfl rfl ?_
    exact pm_R_ret pm_M262 (r := some (.int (-2))) rfl rfl (K (-2) m4 w h1 T2 F6 W9 (sf_weak sf_kn2 (by decide) (by decide)))
  · have B21 : sf_B 0 2147483647 a0 := sf_leR (Int32.not_lt.mp c19) sf_k0 (sf_any a0)
    refine pm_R_lo pm_M174 (pc' := 6) rfl rfl rfl ?_
    refine pm_R_lo pm_M174 (pc' := 7) rfl rfl rfl ?_
    refine pm_R_icmp pm_M174 (t := 14) (pc' := 10) rfl rfl rfl (fun c22 => ?_) (fun c22 => ?_)
    · skip
      refine pm_R_op pm_M174 (pc' := 15) (st' := [.int 0]) rfl rfl rfl ?_
      refine pm_R_ret pm_M174 (r := some (.int 0)) rfl rfl ?_
      show pm_R _ 177 13 [.ref 41, .int 0, .int a0] [.int 0] _ _
      refine pm_R_ret pm_M177 (r := some (.int 0)) rfl rfl ?_
      show pm_R _ 262 11 [.ref 41, .int a0, .int a1, .int a2, .int a3, .int a4] [.int 0] _ _
      refine pm_R_br pm_M262 (pc' := 38) (st' := []) rfl rfl ?_
      refine pm_R_op pm_M262 (pc' := 40) (st' := [.int (-2)]) rfl rfl rfl ?_
      exact pm_R_ret pm_M262 (r := some (.int (-2))) rfl rfl (K (-2) m4 w h1 T2 F6 W9 (sf_weak sf_kn2 (by decide) (by decide)))
    · have B23 : sf_B 0 1 a0 := sf_leL (Int32.not_lt.mp c22) B21 B18
      have B24 : sf_B 0 1 z16 := sf_leR (Int32.not_lt.mp c22) B21 B18
      refine pm_R_op pm_M174 (pc' := 11) (st' := [.int 1]) rfl rfl rfl ?_
      refine pm_R_br pm_M174 (pc' := 15) rfl rfl ?_
      refine pm_R_ret pm_M174 (r := some (.int 1)) rfl rfl ?_
      show pm_R _ 177 13 [.ref 41, .int 0, .int a0] [.int 1] _ _
      refine pm_R_ret pm_M177 (r := some (.int 1)) rfl rfl ?_
      show pm_R _ 262 11 [.ref 41, .int a0, .int a1, .int a2, .int a3, .int a4] [.int 1] _ _
      refine pm_R_br pm_M262 (pc' := 14) (st' := []) rfl rfl ?_
      refine pm_R_lo pm_M262 (pc' := 15) rfl rfl rfl ?_
      refine pm_R_lo pm_M262 (pc' := 16) rfl rfl rfl ?_
      refine pm_R_lo pm_M262 (pc' := 17) rfl rfl rfl ?_
      refine pm_R_lo pm_M262 (pc' := 19) rfl rfl rfl ?_
      refine pm_R_cv pm_M262 (pc' := 22) (a := 41) (ra := [.int a3, .int a2, .int a1]) (rest := []) (ls' := [.ref 41, .int a1, .int a2, .int a3, pm_no]) rfl rfl (Or.inl rfl) pm_M261 T2.2.1 rfl (by decide) (Nat.lt_of_lt_of_le (by decide) T2.1) rfl rfl (Nat.le_of_ble_eq_true rfl) rfl rfl ?_
      refine rf_c261 (d := d + 3) T2  (fun r25 m27 w28 h29 T30 F31 W32 B26 => ?_)
      have F33 := F6.trans F31 (by decide)
      have W34 : rf_W [0, 23, 24, 26, 42, 43, 44, 47] m m27 := W9.trans W32 (by decide)
      show pm_R _ 262 22 [.ref 41, .int a0, .int a1, .int a2, .int a3, .int a4] [.int r25] _ _
      refine pm_R_ifc pm_M262 (t := 38) (pc' := 25) rfl rfl rfl (fun c35 => ?_) (fun c35 => ?_)
      · have B36 : sf_B 0 0 r25 := sf_eqL c35 sf_k0
        refine pm_R_op pm_M262 (pc' := 40) (st' := [.int (-2)]) rfl rfl rfl ?_
        exact pm_R_ret pm_M262 (r := some (.int (-2))) rfl rfl (K (-2) m27 w28 h29 T30 F33 W34 (sf_weak sf_kn2 (by decide) (by decide)))
      · have B37 : sf_B 1 1 r25 := sf_neL0 c35 sf_k0 B26
        refine pm_R_lo pm_M262 (pc' := 26) rfl rfl rfl ?_
        refine pm_R_lo pm_M262 (pc' := 27) rfl rfl rfl ?_
        refine pm_R_cv pm_M262 (pc' := 30) (a := 41) (ra := [.int a0]) (rest := []) (ls' := [.ref 41, .int a0, pm_no]) rfl rfl (Or.inl rfl) pm_M263 T30.2.1 rfl (by decide) (Nat.lt_of_lt_of_le (by decide) T30.1) rfl rfl (Nat.le_of_ble_eq_true rfl) rfl rfl ?_
        refine rf_c263 (d := d + 0) T30 B23 (fun r38 m40 w41 h42 T43 F44 W45 => ?_)
        have F46 := F33.trans F44 (by decide)
        have W47 : rf_W [0, 23, 24, 26, 42, 43, 44, 47] m m40 := W34.trans W45 (by decide)
        show pm_R _ 262 30 [.ref 41, .int a0, .int a1, .int a2, .int a3, .int a4] [.long r38] _ _
        refine pm_R_lo pm_M262 (pc' := 32) rfl rfl rfl ?_
        refine pm_R_cs pm_M262 (pc' := 35) (ra := [.int a4, .long r38]) (rest := []) (ls' := [.long r38, pm_no, .int a4, pm_no, pm_no]) rfl rfl (Or.inl rfl) pm_M221 rfl rfl (Nat.le_of_ble_eq_true rfl) rfl rfl ?_
        refine rf_c221 (d := d + 4)  (fun r48 B49 => ?_)
        show pm_R _ 262 35 [.ref 41, .int a0, .int a1, .int a2, .int a3, .int a4] [.int r48] _ _
        refine pm_R_br pm_M262 (pc' := 40) rfl rfl ?_
        exact pm_R_ret pm_M262 (r := some (.int r48)) rfl (pm_ret_i _) (K r48 m40 w41 h42 T43 F46 W47 B49)

set_option maxRecDepth 100000 in
set_option maxHeartbeats 4000000 in
/-- SilentTableModel.sure -/
theorem rf_c264 {d : Nat} {m : Nat → Int32} {w : Int64} {h : pm_H} {Q : Option Value → pm_H → Prop} {a0 : Int32} {a1 : Int32} {a2 : Int32} (T : rf_T m w h)  (K : ∀ (r : Int32) (m' : Nat → Int32) (w' : Int64) (h' : pm_H), rf_T m' w' h' → rf_G [41, 53, 54, 67, 68, 69] h h' → rf_W [0, 23, 24, 26, 42, 43, 44, 47] m m' → Q (some (.int r)) h') : pm_R (d + 7) 264 0 [.ref 41, .int a0, .int a1, .int a2, pm_no, pm_no, pm_no, pm_no, pm_no] [] h Q := by
  refine pm_R_lo pm_M264 (pc' := 1) rfl rfl rfl ?_
  refine pm_R_op pm_M264 (pc' := 2) (st' := [.int 0, .ref 41]) rfl rfl rfl ?_
  refine rf_R_put pm_M264 T (pc' := 5) rfl rfl rfl (by decide) rfl rfl sf_k0 rfl rfl (fun h1 m4 em5 T2 F3 => ?_)
  have F6 := (rf_G.refl [41, 53, 54, 67, 68, 69] h).trans F3 (by decide)
  have B7 : sf_B 0 0 (m4 0) := by rw [em5]; exact sf_k0
  have W9 : rf_W [0, 23, 24, 26, 42, 43, 44, 47] m m4 := by rw [em5]; exact (rf_W.refl [0, 23, 24, 26, 42, 43, 44, 47] m).put (by decide)
  refine pm_R_lo pm_M264 (pc' := 6) rfl rfl rfl ?_
  refine pm_R_op pm_M264 (pc' := 7) (st' := [.int 0, .ref 41]) rfl rfl rfl ?_
  refine pm_R_lo pm_M264 (pc' := 8) rfl rfl rfl ?_
  refine pm_R_cv pm_M264 (pc' := 11) (a := 41) (ra := [.int a0, .int 0]) (rest := []) (ls' := [.ref 41, .int 0, .int a0]) rfl rfl (Or.inl rfl) pm_M177 T2.2.1 rfl (by decide) (Nat.lt_of_lt_of_le (by decide) T2.1) rfl rfl (Nat.le_of_ble_eq_true rfl) rfl rfl ?_
  refine pm_R_lo pm_M177 (pc' := 1) rfl rfl rfl ?_
  refine pm_R_op pm_M177 (pc' := 2) (st' := [.int 0, .int a0]) rfl rfl rfl ?_
  refine pm_R_lo pm_M177 (pc' := 3) rfl rfl rfl ?_
  refine rf_R_get pm_M177 T2 (pc' := 6) (v := .ref 46) rfl rfl rfl rfl ?_
  refine pm_R_lo pm_M177 (pc' := 7) rfl rfl rfl ?_
  obtain ⟨f10, e11, b12⟩ := T2.2.2.2.1 46 (by decide) (by decide)
  refine rf_R_ild pm_M177 T2 (pc' := 8) rfl e11 (by decide) rfl rfl (fun z13 ez14 => ?_)
  have B15 : sf_B 0 2 z13 := ez14 ▸ (b12 0)
  refine pm_R_op pm_M177 (pc' := 9) (st' := [.int 1, .int z13, .int 0, .int a0]) rfl rfl rfl ?_
  refine sf_R_isub pm_M177 (pc' := 10) rfl rfl B15 sf_k1 (by decide) (by decide) (fun z16 e17 B18 => ?_)
  refine pm_R_cs pm_M177 (pc' := 13) (ra := [.int z16, .int 0, .int a0]) (rest := []) (ls' := [.int a0, .int 0, .int z16]) rfl rfl (Or.inl rfl) pm_M174 rfl rfl (Nat.le_of_ble_eq_true rfl) rfl rfl ?_
  refine pm_R_lo pm_M174 (pc' := 1) rfl rfl rfl ?_
  refine pm_R_lo pm_M174 (pc' := 2) rfl rfl rfl ?_
  refine pm_R_icmp pm_M174 (t := 14) (pc' := 5) rfl rfl rfl (fun c19 => ?_) (fun c19 => ?_)
  · have B20 : sf_B (-2147483648) (-1) a0 := sf_ltL c19 (sf_any a0) sf_k0
    refine pm_R_op pm_M174 (pc' := 15) (st' := [.int 0]) rfl rfl rfl ?_
    refine pm_R_ret pm_M174 (r := some (.int 0)) rfl rfl ?_
    show pm_R _ 177 13 [.ref 41, .int 0, .int a0] [.int 0] _ _
    refine pm_R_ret pm_M177 (r := some (.int 0)) rfl rfl ?_
    show pm_R _ 264 11 [.ref 41, .int a0, .int a1, .int a2, pm_no, pm_no, pm_no, pm_no, pm_no] [.int 0] _ _
    refine pm_R_br pm_M264 (pc' := 24) (st' := []) rfl rfl ?_
    refine pm_R_op pm_M264 (pc' := 25) (st' := [.int (-1)]) rfl rfl rfl ?_
    exact pm_R_ret pm_M264 (r := some (.int (-1))) rfl rfl (K (-1) m4 w h1 T2 F6 W9)
  · have B21 : sf_B 0 2147483647 a0 := sf_leR (Int32.not_lt.mp c19) sf_k0 (sf_any a0)
    refine pm_R_lo pm_M174 (pc' := 6) rfl rfl rfl ?_
    refine pm_R_lo pm_M174 (pc' := 7) rfl rfl rfl ?_
    refine pm_R_icmp pm_M174 (t := 14) (pc' := 10) rfl rfl rfl (fun c22 => ?_) (fun c22 => ?_)
    · skip
      refine pm_R_op pm_M174 (pc' := 15) (st' := [.int 0]) rfl rfl rfl ?_
      refine pm_R_ret pm_M174 (r := some (.int 0)) rfl rfl ?_
      show pm_R _ 177 13 [.ref 41, .int 0, .int a0] [.int 0] _ _
      refine pm_R_ret pm_M177 (r := some (.int 0)) rfl rfl ?_
      show pm_R _ 264 11 [.ref 41, .int a0, .int a1, .int a2, pm_no, pm_no, pm_no, pm_no, pm_no] [.int 0] _ _
      refine pm_R_br pm_M264 (pc' := 24) (st' := []) rfl rfl ?_
      refine pm_R_op pm_M264 (pc' := 25) (st' := [.int (-1)]) rfl rfl rfl ?_
      exact pm_R_ret pm_M264 (r := some (.int (-1))) rfl rfl (K (-1) m4 w h1 T2 F6 W9)
    · have B23 : sf_B 0 1 a0 := sf_leL (Int32.not_lt.mp c22) B21 B18
      have B24 : sf_B 0 1 z16 := sf_leR (Int32.not_lt.mp c22) B21 B18
      refine pm_R_op pm_M174 (pc' := 11) (st' := [.int 1]) rfl rfl rfl ?_
      refine pm_R_br pm_M174 (pc' := 15) rfl rfl ?_
      refine pm_R_ret pm_M174 (r := some (.int 1)) rfl rfl ?_
      show pm_R _ 177 13 [.ref 41, .int 0, .int a0] [.int 1] _ _
      refine pm_R_ret pm_M177 (r := some (.int 1)) rfl rfl ?_
      show pm_R _ 264 11 [.ref 41, .int a0, .int a1, .int a2, pm_no, pm_no, pm_no, pm_no, pm_no] [.int 1] _ _
      refine pm_R_br pm_M264 (pc' := 14) (st' := []) rfl rfl ?_
      refine pm_R_lo pm_M264 (pc' := 15) rfl rfl rfl ?_
      refine pm_R_lo pm_M264 (pc' := 16) rfl rfl rfl ?_
      refine pm_R_op pm_M264 (pc' := 17) (st' := [.int (-1), .int a1, .ref 41]) rfl rfl rfl ?_
      refine pm_R_lo pm_M264 (pc' := 18) rfl rfl rfl ?_
      refine pm_R_cv pm_M264 (pc' := 21) (a := 41) (ra := [.int a2, .int (-1), .int a1]) (rest := []) (ls' := [.ref 41, .int a1, .int (-1), .int a2, pm_no]) rfl rfl (Or.inl rfl) pm_M261 T2.2.1 rfl (by decide) (Nat.lt_of_lt_of_le (by decide) T2.1) rfl rfl (Nat.le_of_ble_eq_true rfl) rfl rfl ?_
      refine rf_c261 (d := d + 3) T2  (fun r25 m27 w28 h29 T30 F31 W32 B26 => ?_)
      have F33 := F6.trans F31 (by decide)
      have W34 : rf_W [0, 23, 24, 26, 42, 43, 44, 47] m m27 := W9.trans W32 (by decide)
      show pm_R _ 264 21 [.ref 41, .int a0, .int a1, .int a2, pm_no, pm_no, pm_no, pm_no, pm_no] [.int r25] _ _
      refine pm_R_ifc pm_M264 (t := 26) (pc' := 24) rfl rfl rfl (fun c35 => ?_) (fun c35 => ?_)
      · have B36 : sf_B 1 1 r25 := sf_neL0 c35 sf_k0 B26
        refine pm_R_lo pm_M264 (pc' := 27) rfl rfl rfl ?_
        refine pm_R_lo pm_M264 (pc' := 28) rfl rfl rfl ?_
        refine pm_R_cv pm_M264 (pc' := 31) (a := 41) (ra := [.int a0]) (rest := []) (ls' := [.ref 41, .int a0, pm_no]) rfl rfl (Or.inl rfl) pm_M263 T30.2.1 rfl (by decide) (Nat.lt_of_lt_of_le (by decide) T30.1) rfl rfl (Nat.le_of_ble_eq_true rfl) rfl rfl ?_
        refine rf_c263 (d := d + 0) T30 B23 (fun r37 m39 w40 h41 T42 F43 W44 => ?_)
        have F45 := F33.trans F43 (by decide)
        have W46 : rf_W [0, 23, 24, 26, 42, 43, 44, 47] m m39 := W34.trans W44 (by decide)
        show pm_R _ 264 31 [.ref 41, .int a0, .int a1, .int a2, pm_no, pm_no, pm_no, pm_no, pm_no] [.long r37] _ _
        refine pm_R_lo pm_M264 (pc' := 33) (ls' := [.ref 41, .int a0, .int a1, .int a2, .long r37, pm_no, pm_no, pm_no, pm_no]) (st' := []) rfl rfl rfl ?_
        refine pm_R_op pm_M264 (pc' := 34) (st' := [.int 0]) rfl rfl rfl ?_
        refine pm_R_lo pm_M264 (pc' := 36) (ls' := [.ref 41, .int a0, .int a1, .int a2, .long r37, pm_no, .int 0, pm_no, pm_no]) (st' := []) rfl rfl rfl ?_
        refine pm_R_op pm_M264 (pc' := 37) (st' := [.int 0]) rfl rfl rfl ?_
        refine pm_R_lo pm_M264 (pc' := 39) (ls' := [.ref 41, .int a0, .int a1, .int a2, .long r37, pm_no, .int 0, .int 0, pm_no]) (st' := []) rfl rfl rfl ?_
        have L_487 : ∀ (N : Nat) (h_487 : pm_H) (m_487 : Nat → Int32) (w_487 : Int64) (x6_487 : Int32) (x7_487 : Int32) (g8_487 : Value), rf_T m_487 w_487 h_487 → rf_G [41, 53, 54, 67, 68, 69] h h_487 → rf_W [23, 24, 26, 42, 43, 44, 47] m39 m_487 → sf_B (-2147483648) 2147483647 x6_487 → sf_B 0 6 x7_487 → g8_487.category = 1 → (6 - x7_487.toInt).toNat = N → pm_R (d + 7) 264 39 [.ref 41, .int a0, .int a1, .int a2, .long r37, pm_no, .int x6_487, .int x7_487, g8_487] [] h_487 Q := by
          intro N
          induction N using Nat.strongRecOn with
          | ind N ih_487 =>
            intro h_487 m_487 w_487 x6_487 x7_487 g8_487 T_487 F_487 W_487 Bx6_487 Bx7_487 Cg8_487 hN_487
            have W490 : rf_W [0, 23, 24, 26, 42, 43, 44, 47] m m_487 := W46.trans W_487 (by decide)
            refine pm_R_lo pm_M264 (pc' := 41) rfl rfl rfl ?_
            refine pm_R_lo pm_M264 (pc' := 42) rfl rfl rfl ?_
            have B491 : sf_B 0 6 (m_487 42) := T_487.2.2.1 42
            refine rf_R_get pm_M264 T_487 (pc' := 45) (v := .int (m_487 42)) rfl rfl rfl rfl ?_
            refine pm_R_icmp pm_M264 (t := 116) (pc' := 48) rfl rfl rfl (fun c492 => ?_) (fun c492 => ?_)
            · skip
              refine pm_R_lo pm_M264 (pc' := 118) (pm_q264_1 (Nat.le_of_ble_eq_true rfl)) rfl rfl ?_
              exact pm_R_ret pm_M264 (r := some (.int x6_487)) (pm_q264_1 (Nat.le_of_ble_eq_true rfl)) (pm_ret_i _) (K x6_487 m_487 w_487 h_487 T_487 F_487 W490)
            · have B493 : sf_B 0 5 x7_487 := sf_ltL (Int32.not_le.mp c492) Bx7_487 B491
              have B494 : sf_B 1 6 (m_487 42) := sf_ltR (Int32.not_le.mp c492) Bx7_487 B491
              refine pm_R_lo pm_M264 (pc' := 50) rfl rfl rfl ?_
              refine pm_R_lo pm_M264 (pc' := 51) rfl rfl rfl ?_
              refine pm_R_icmp pm_M264 (t := 78) (pc' := 54) rfl rfl rfl (fun c495 => ?_) (fun c495 => ?_)
              · have B496 : sf_B 0 5 a2 := sf_eqR c495 B493
                refine pm_R_op pm_M264 (pc' := 79) (st' := [.int 0]) rfl rfl rfl ?_
                refine pm_R_lo pm_M264 (pc' := 81) (ls' := [.ref 41, .int a0, .int a1, .int a2, .long r37, pm_no, .int x6_487, .int x7_487, .int 0]) (st' := []) rfl rfl rfl ?_
                refine pm_R_lo pm_M264 (pc' := 83) rfl rfl rfl ?_
                refine pm_R_lo pm_M264 (pc' := 85) rfl rfl rfl ?_
                refine pm_R_br pm_M264 (pc' := 106) (st' := [.int x6_487]) rfl rfl ?_
                refine pm_R_op pm_M264 (pc' := 107) (st' := [.int 0, .int x6_487]) rfl rfl rfl ?_
                refine sf_R_iany pm_M264 (pc' := 108) (st := []) rfl rfl rfl (fun z500 => ?_)
                refine pm_R_lo pm_M264 (pc' := 110) (ls' := [.ref 41, .int a0, .int a1, .int a2, .long r37, pm_no, .int z500, .int x7_487, .int 0]) (st' := []) (pm_q264_1 (Nat.le_of_ble_eq_true rfl)) rfl rfl ?_
                refine sf_R_iinc pm_M264 (pc' := 113) (ls' := fun z => [.ref 41, .int a0, .int a1, .int a2, .long r37, pm_no, .int z500, .int z, .int 0]) (pm_q264_1 (Nat.le_of_ble_eq_true rfl)) B493 rfl (by decide) (by decide) (by decide) (fun _ => rfl) rfl (fun z501 e502 B503 => ?_)
                show pm_R _ 264 113 [.ref 41, .int a0, .int a1, .int a2, .long r37, pm_no, .int z500, .int z501, .int 0] [] _ _
                refine pm_R_br pm_M264 (pc' := 39) (pm_q264_1 (Nat.le_of_ble_eq_true rfl)) rfl ?_
                exact ih_487 _ (sf_up hN_487 e502 B493 (by decide) (by decide)) h_487 m_487 w_487 z500 z501 (.int 0) T_487 F_487 W_487 (sf_any z500) (sf_weak B503 (by decide) (by decide)) rfl rfl
              · skip
                refine pm_R_lo pm_M264 (pc' := 56) rfl rfl rfl ?_
                refine pm_R_cs pm_M264 (pc' := 59) (ra := [.long r37]) (rest := []) (ls' := [.long r37, pm_no, pm_no, pm_no]) rfl rfl (Or.inl rfl) pm_M222 rfl rfl (Nat.le_of_ble_eq_true rfl) rfl rfl ?_
                refine rf_c222 (d := d + 5)  (fun r504 B505 => ?_)
                show pm_R _ 264 59 [.ref 41, .int a0, .int a1, .int a2, .long r37, pm_no, .int x6_487, .int x7_487, g8_487] [.int r504] _ _
                refine pm_R_op pm_M264 (pc' := 60) (st' := [.int 1, .int r504]) rfl rfl rfl ?_
                refine pm_R_icmp pm_M264 (t := 78) (pc' := 63) rfl rfl rfl (fun c512 => ?_) (fun c512 => ?_)
                · skip
                  refine pm_R_op pm_M264 (pc' := 79) (st' := [.int 0]) rfl rfl rfl ?_
                  refine pm_R_lo pm_M264 (pc' := 81) (ls' := [.ref 41, .int a0, .int a1, .int a2, .long r37, pm_no, .int x6_487, .int x7_487, .int 0]) (st' := []) rfl rfl rfl ?_
                  refine pm_R_lo pm_M264 (pc' := 83) rfl rfl rfl ?_
                  refine pm_R_lo pm_M264 (pc' := 85) rfl rfl rfl ?_
                  refine pm_R_br pm_M264 (pc' := 106) (st' := [.int x6_487]) rfl rfl ?_
                  refine pm_R_op pm_M264 (pc' := 107) (st' := [.int 0, .int x6_487]) rfl rfl rfl ?_
                  refine sf_R_iany pm_M264 (pc' := 108) (st := []) rfl rfl rfl (fun z516 => ?_)
                  refine pm_R_lo pm_M264 (pc' := 110) (ls' := [.ref 41, .int a0, .int a1, .int a2, .long r37, pm_no, .int z516, .int x7_487, .int 0]) (st' := []) (pm_q264_1 (Nat.le_of_ble_eq_true rfl)) rfl rfl ?_
                  refine sf_R_iinc pm_M264 (pc' := 113) (ls' := fun z => [.ref 41, .int a0, .int a1, .int a2, .long r37, pm_no, .int z516, .int z, .int 0]) (pm_q264_1 (Nat.le_of_ble_eq_true rfl)) B493 rfl (by decide) (by decide) (by decide) (fun _ => rfl) rfl (fun z517 e518 B519 => ?_)
                  show pm_R _ 264 113 [.ref 41, .int a0, .int a1, .int a2, .long r37, pm_no, .int z516, .int z517, .int 0] [] _ _
                  refine pm_R_br pm_M264 (pc' := 39) (pm_q264_1 (Nat.le_of_ble_eq_true rfl)) rfl ?_
                  exact ih_487 _ (sf_up hN_487 e518 B493 (by decide) (by decide)) h_487 m_487 w_487 z516 z517 (.int 0) T_487 F_487 W_487 (sf_any z516) (sf_weak B519 (by decide) (by decide)) rfl rfl
                · have B520 : sf_B 1 1 r504 := sf_eqL (Classical.not_not.mp c512) sf_k1
                  refine pm_R_lo pm_M264 (pc' := 64) rfl rfl rfl ?_
                  refine pm_R_lo pm_M264 (pc' := 65) rfl rfl rfl ?_
                  refine pm_R_lo pm_M264 (pc' := 67) rfl rfl rfl ?_
                  refine pm_R_lo pm_M264 (pc' := 68) rfl rfl rfl ?_
                  refine pm_R_cv pm_M264 (pc' := 71) (a := 41) (ra := [.int a2, .int x7_487, .int a1]) (rest := []) (ls' := [.ref 41, .int a1, .int x7_487, .int a2, pm_no]) rfl rfl (Or.inl rfl) pm_M261 T_487.2.1 rfl (by decide) (Nat.lt_of_lt_of_le (by decide) T_487.1) rfl rfl (Nat.le_of_ble_eq_true rfl) rfl rfl ?_
                  refine rf_c261 (d := d + 3) T_487  (fun r521 m523 w524 h525 T526 F527 W528 B522 => ?_)
                  have F529 := F_487.trans F527 (by decide)
                  have W530 : rf_W [0, 23, 24, 26, 42, 43, 44, 47] m m523 := W490.trans W528 (by decide)
                  have W531 : rf_W [23, 24, 26, 42, 43, 44, 47] m39 m523 := W_487.trans W528 (by decide)
                  show pm_R _ 264 71 [.ref 41, .int a0, .int a1, .int a2, .long r37, pm_no, .int x6_487, .int x7_487, g8_487] [.int r521] _ _
                  refine pm_R_ifc pm_M264 (t := 78) (pc' := 74) rfl rfl rfl (fun c532 => ?_) (fun c532 => ?_)
                  · have B533 : sf_B 0 0 r521 := sf_eqL c532 sf_k0
                    refine pm_R_op pm_M264 (pc' := 79) (st' := [.int 0]) rfl rfl rfl ?_
                    refine pm_R_lo pm_M264 (pc' := 81) (ls' := [.ref 41, .int a0, .int a1, .int a2, .long r37, pm_no, .int x6_487, .int x7_487, .int 0]) (st' := []) rfl rfl rfl ?_
                    refine pm_R_lo pm_M264 (pc' := 83) rfl rfl rfl ?_
                    refine pm_R_lo pm_M264 (pc' := 85) rfl rfl rfl ?_
                    refine pm_R_br pm_M264 (pc' := 106) (st' := [.int x6_487]) rfl rfl ?_
                    refine pm_R_op pm_M264 (pc' := 107) (st' := [.int 0, .int x6_487]) rfl rfl rfl ?_
                    refine sf_R_iany pm_M264 (pc' := 108) (st := []) rfl rfl rfl (fun z537 => ?_)
                    refine pm_R_lo pm_M264 (pc' := 110) (ls' := [.ref 41, .int a0, .int a1, .int a2, .long r37, pm_no, .int z537, .int x7_487, .int 0]) (st' := []) (pm_q264_1 (Nat.le_of_ble_eq_true rfl)) rfl rfl ?_
                    refine sf_R_iinc pm_M264 (pc' := 113) (ls' := fun z => [.ref 41, .int a0, .int a1, .int a2, .long r37, pm_no, .int z537, .int z, .int 0]) (pm_q264_1 (Nat.le_of_ble_eq_true rfl)) B493 rfl (by decide) (by decide) (by decide) (fun _ => rfl) rfl (fun z538 e539 B540 => ?_)
                    show pm_R _ 264 113 [.ref 41, .int a0, .int a1, .int a2, .long r37, pm_no, .int z537, .int z538, .int 0] [] _ _
                    refine pm_R_br pm_M264 (pc' := 39) (pm_q264_1 (Nat.le_of_ble_eq_true rfl)) rfl ?_
                    exact ih_487 _ (sf_up hN_487 e539 B493 (by decide) (by decide)) h525 m523 w524 z537 z538 (.int 0) T526 F529 W531 (sf_any z537) (sf_weak B540 (by decide) (by decide)) rfl rfl
                  · have B541 : sf_B 1 1 r521 := sf_neL0 c532 sf_k0 B522
                    refine pm_R_op pm_M264 (pc' := 75) (st' := [.int 1]) rfl rfl rfl ?_
                    refine pm_R_br pm_M264 (pc' := 79) rfl rfl ?_
                    refine pm_R_lo pm_M264 (pc' := 81) (ls' := [.ref 41, .int a0, .int a1, .int a2, .long r37, pm_no, .int x6_487, .int x7_487, .int 1]) (st' := []) rfl rfl rfl ?_
                    refine pm_R_lo pm_M264 (pc' := 83) rfl rfl rfl ?_
                    refine pm_R_lo pm_M264 (pc' := 85) rfl rfl rfl ?_
                    refine pm_R_br pm_M264 (pc' := 88) (st' := [.int x6_487]) rfl rfl ?_
                    refine pm_R_lo pm_M264 (pc' := 89) rfl rfl rfl ?_
                    refine pm_R_lo pm_M264 (pc' := 90) rfl rfl rfl ?_
                    refine pm_R_cv pm_M264 (pc' := 93) (a := 41) (ra := [.int a0]) (rest := [.int x6_487]) (ls' := [.ref 41, .int a0, pm_no]) rfl rfl (Or.inl rfl) pm_M263 T526.2.1 rfl (by decide) (Nat.lt_of_lt_of_le (by decide) T526.1) rfl rfl (Nat.le_of_ble_eq_true rfl) rfl rfl ?_
                    refine rf_c263 (d := d + 0) T526 B23 (fun r542 m544 w545 h546 T547 F548 W549 => ?_)
                    have F550 := F529.trans F548 (by decide)
                    have W551 : rf_W [0, 23, 24, 26, 42, 43, 44, 47] m m544 := W530.trans W549 (by decide)
                    have W552 : rf_W [23, 24, 26, 42, 43, 44, 47] m39 m544 := W531.trans W549 (by decide)
                    show pm_R _ 264 93 [.ref 41, .int a0, .int a1, .int a2, .long r37, pm_no, .int x6_487, .int x7_487, .int 1] [.long r542, .int x6_487] _ _
                    refine pm_R_lo pm_M264 (pc' := 95) rfl rfl rfl ?_
                    refine sf_R_lcmp pm_M264 (pc' := 96) rfl rfl (fun z553 e554 => ?_)
                    refine pm_R_ifc pm_M264 (t := 106) (pc' := 99) rfl rfl rfl (fun c555 => ?_) (fun c555 => ?_)
                    · have k556 := sf_lneC e554 c555
                      refine pm_R_op pm_M264 (pc' := 107) (st' := [.int 0, .int x6_487]) rfl rfl rfl ?_
                      refine sf_R_iany pm_M264 (pc' := 108) (st := []) rfl rfl rfl (fun z560 => ?_)
                      refine pm_R_lo pm_M264 (pc' := 110) (ls' := [.ref 41, .int a0, .int a1, .int a2, .long r37, pm_no, .int z560, .int x7_487, .int 1]) (st' := []) (pm_q264_1 (Nat.le_of_ble_eq_true rfl)) rfl rfl ?_
                      refine sf_R_iinc pm_M264 (pc' := 113) (ls' := fun z => [.ref 41, .int a0, .int a1, .int a2, .long r37, pm_no, .int z560, .int z, .int 1]) (pm_q264_1 (Nat.le_of_ble_eq_true rfl)) B493 rfl (by decide) (by decide) (by decide) (fun _ => rfl) rfl (fun z561 e562 B563 => ?_)
                      show pm_R _ 264 113 [.ref 41, .int a0, .int a1, .int a2, .long r37, pm_no, .int z560, .int z561, .int 1] [] _ _
                      refine pm_R_br pm_M264 (pc' := 39) (pm_q264_1 (Nat.le_of_ble_eq_true rfl)) rfl ?_
                      exact ih_487 _ (sf_up hN_487 e562 B493 (by decide) (by decide)) h546 m544 w545 z560 z561 (.int 1) T547 F550 W552 (sf_any z560) (sf_weak B563 (by decide) (by decide)) rfl rfl
                    · have B564 : sf_B 0 0 z553 := sf_eqL (Classical.not_not.mp c555) sf_k0
                      refine pm_R_op pm_M264 (pc' := 100) (st' := [.int 1, .int x6_487]) rfl rfl rfl ?_
                      refine pm_R_lo pm_M264 (pc' := 102) rfl rfl rfl ?_
                      refine sf_R_iany pm_M264 (pc' := 103) (st := [.int x6_487]) rfl rfl rfl (fun z568 => ?_)
                      refine pm_R_br pm_M264 (pc' := 107) rfl rfl ?_
                      refine sf_R_iany pm_M264 (pc' := 108) (st := []) rfl rfl rfl (fun z572 => ?_)
                      refine pm_R_lo pm_M264 (pc' := 110) (ls' := [.ref 41, .int a0, .int a1, .int a2, .long r37, pm_no, .int z572, .int x7_487, .int 1]) (st' := []) (pm_q264_1 (Nat.le_of_ble_eq_true rfl)) rfl rfl ?_
                      refine sf_R_iinc pm_M264 (pc' := 113) (ls' := fun z => [.ref 41, .int a0, .int a1, .int a2, .long r37, pm_no, .int z572, .int z, .int 1]) (pm_q264_1 (Nat.le_of_ble_eq_true rfl)) B493 rfl (by decide) (by decide) (by decide) (fun _ => rfl) rfl (fun z573 e574 B575 => ?_)
                      show pm_R _ 264 113 [.ref 41, .int a0, .int a1, .int a2, .long r37, pm_no, .int z572, .int z573, .int 1] [] _ _
                      refine pm_R_br pm_M264 (pc' := 39) (pm_q264_1 (Nat.le_of_ble_eq_true rfl)) rfl ?_
                      exact ih_487 _ (sf_up hN_487 e574 B493 (by decide) (by decide)) h546 m544 w545 z572 z573 (.int 1) T547 F550 W552 (sf_any z572) (sf_weak B575 (by decide) (by decide)) rfl rfl
        exact L_487 _ h41 m39 w40 0 0 (pm_no) T42 F45 (rf_W.refl _ _) (sf_weak sf_k0 (by decide) (by decide)) (sf_weak sf_k0 (by decide) (by decide)) rfl rfl
      · have B576 : sf_B 0 0 r25 := sf_eqL (Classical.not_not.mp c35) sf_k0
        refine pm_R_op pm_M264 (pc' := 25) (st' := [.int (-1)]) rfl rfl rfl ?_
        exact pm_R_ret pm_M264 (r := some (.int (-1))) rfl rfl (K (-1) m27 w28 h29 T30 F33 W34)

set_option maxRecDepth 100000 in
set_option maxHeartbeats 4000000 in
/-- SilentTableModel.idle -/
theorem rf_c251 {d : Nat} {m : Nat → Int32} {w : Int64} {h : pm_H} {Q : Option Value → pm_H → Prop} {a0 : Int32} {a1 : Int32} (T : rf_T m w h)  (K : ∀ (r : Int32) (m' : Nat → Int32) (w' : Int64) (h' : pm_H), rf_T m' w' h' → rf_G [41, 53, 54] h h' → rf_W [0, 23, 24, 26] m m' → Q (some (.int r)) h') : pm_R (d + 6) 251 0 [.ref 41, .int a0, .int a1, pm_no, pm_no, pm_no, pm_no, pm_no, pm_no] [] h Q := by
  refine pm_R_lo pm_M251 (pc' := 1) rfl rfl rfl ?_
  refine pm_R_op pm_M251 (pc' := 2) (st' := [.int 0, .ref 41]) rfl rfl rfl ?_
  refine rf_R_put pm_M251 T (pc' := 5) rfl rfl rfl (by decide) rfl rfl sf_k0 rfl rfl (fun h1 m4 em5 T2 F3 => ?_)
  have F6 := (rf_G.refl [41, 53, 54] h).trans F3 (by decide)
  have B7 : sf_B 0 0 (m4 0) := by rw [em5]; exact sf_k0
  have W9 : rf_W [0, 23, 24, 26] m m4 := by rw [em5]; exact (rf_W.refl [0, 23, 24, 26] m).put (by decide)
  refine pm_R_lo pm_M251 (pc' := 6) rfl rfl rfl ?_
  refine pm_R_lo pm_M251 (pc' := 7) rfl rfl rfl ?_
  refine pm_R_lo pm_M251 (pc' := 8) rfl rfl rfl ?_
  refine pm_R_cv pm_M251 (pc' := 11) (a := 41) (ra := [.int a1, .int a0]) (rest := []) (ls' := [.ref 41, .int a0, .int a1]) rfl rfl (Or.inl rfl) pm_M200 T2.2.1 rfl (by decide) (Nat.lt_of_lt_of_le (by decide) T2.1) rfl rfl (Nat.le_of_ble_eq_true rfl) rfl rfl ?_
  refine pm_R_lo pm_M200 (pc' := 1) rfl rfl rfl ?_
  refine pm_R_op pm_M200 (pc' := 2) (st' := [.int 0, .ref 41]) rfl rfl rfl ?_
  refine pm_R_lo pm_M200 (pc' := 3) rfl rfl rfl ?_
  refine pm_R_cv pm_M200 (pc' := 6) (a := 41) (ra := [.int a0, .int 0]) (rest := []) (ls' := [.ref 41, .int 0, .int a0]) rfl rfl (Or.inl rfl) pm_M177 T2.2.1 rfl (by decide) (Nat.lt_of_lt_of_le (by decide) T2.1) rfl rfl (Nat.le_of_ble_eq_true rfl) rfl rfl ?_
  refine pm_R_lo pm_M177 (pc' := 1) rfl rfl rfl ?_
  refine pm_R_op pm_M177 (pc' := 2) (st' := [.int 0, .int a0]) rfl rfl rfl ?_
  refine pm_R_lo pm_M177 (pc' := 3) rfl rfl rfl ?_
  refine rf_R_get pm_M177 T2 (pc' := 6) (v := .ref 46) rfl rfl rfl rfl ?_
  refine pm_R_lo pm_M177 (pc' := 7) rfl rfl rfl ?_
  obtain ⟨f10, e11, b12⟩ := T2.2.2.2.1 46 (by decide) (by decide)
  refine rf_R_ild pm_M177 T2 (pc' := 8) rfl e11 (by decide) rfl rfl (fun z13 ez14 => ?_)
  have B15 : sf_B 0 2 z13 := ez14 ▸ (b12 0)
  refine pm_R_op pm_M177 (pc' := 9) (st' := [.int 1, .int z13, .int 0, .int a0]) rfl rfl rfl ?_
  refine sf_R_isub pm_M177 (pc' := 10) rfl rfl B15 sf_k1 (by decide) (by decide) (fun z16 e17 B18 => ?_)
  refine pm_R_cs pm_M177 (pc' := 13) (ra := [.int z16, .int 0, .int a0]) (rest := []) (ls' := [.int a0, .int 0, .int z16]) rfl rfl (Or.inl rfl) pm_M174 rfl rfl (Nat.le_of_ble_eq_true rfl) rfl rfl ?_
  refine pm_R_lo pm_M174 (pc' := 1) rfl rfl rfl ?_
  refine pm_R_lo pm_M174 (pc' := 2) rfl rfl rfl ?_
  refine pm_R_icmp pm_M174 (t := 14) (pc' := 5) rfl rfl rfl (fun c19 => ?_) (fun c19 => ?_)
  · have B20 : sf_B (-2147483648) (-1) a0 := sf_ltL c19 (sf_any a0) sf_k0
    refine pm_R_op pm_M174 (pc' := 15) (st' := [.int 0]) rfl rfl rfl ?_
    refine pm_R_ret pm_M174 (r := some (.int 0)) rfl rfl ?_
    show pm_R _ 177 13 [.ref 41, .int 0, .int a0] [.int 0] _ _
    refine pm_R_ret pm_M177 (r := some (.int 0)) rfl rfl ?_
    show pm_R _ 200 6 [.ref 41, .int a0, .int a1] [.int 0] _ _
    refine pm_R_br pm_M200 (pc' := 18) (st' := []) rfl rfl ?_
    refine pm_R_op pm_M200 (pc' := 19) (st' := [.int 0]) rfl rfl rfl ?_
    refine pm_R_ret pm_M200 (r := some (.int 0)) rfl rfl ?_
    show pm_R _ 251 11 [.ref 41, .int a0, .int a1, pm_no, pm_no, pm_no, pm_no, pm_no, pm_no] [.int 0] _ _
    refine pm_R_br pm_M251 (pc' := 14) (st' := []) rfl rfl ?_
    refine pm_R_op pm_M251 (pc' := 15) (st' := [.int (-1)]) rfl rfl rfl ?_
    exact pm_R_ret pm_M251 (r := some (.int (-1))) rfl rfl (K (-1) m4 w h1 T2 F6 W9)
  · have B21 : sf_B 0 2147483647 a0 := sf_leR (Int32.not_lt.mp c19) sf_k0 (sf_any a0)
    refine pm_R_lo pm_M174 (pc' := 6) rfl rfl rfl ?_
    refine pm_R_lo pm_M174 (pc' := 7) rfl rfl rfl ?_
    refine pm_R_icmp pm_M174 (t := 14) (pc' := 10) rfl rfl rfl (fun c22 => ?_) (fun c22 => ?_)
    · skip
      refine pm_R_op pm_M174 (pc' := 15) (st' := [.int 0]) rfl rfl rfl ?_
      refine pm_R_ret pm_M174 (r := some (.int 0)) rfl rfl ?_
      show pm_R _ 177 13 [.ref 41, .int 0, .int a0] [.int 0] _ _
      refine pm_R_ret pm_M177 (r := some (.int 0)) rfl rfl ?_
      show pm_R _ 200 6 [.ref 41, .int a0, .int a1] [.int 0] _ _
      refine pm_R_br pm_M200 (pc' := 18) (st' := []) rfl rfl ?_
      refine pm_R_op pm_M200 (pc' := 19) (st' := [.int 0]) rfl rfl rfl ?_
      refine pm_R_ret pm_M200 (r := some (.int 0)) rfl rfl ?_
      show pm_R _ 251 11 [.ref 41, .int a0, .int a1, pm_no, pm_no, pm_no, pm_no, pm_no, pm_no] [.int 0] _ _
      refine pm_R_br pm_M251 (pc' := 14) (st' := []) rfl rfl ?_
      refine pm_R_op pm_M251 (pc' := 15) (st' := [.int (-1)]) rfl rfl rfl ?_
      exact pm_R_ret pm_M251 (r := some (.int (-1))) rfl rfl (K (-1) m4 w h1 T2 F6 W9)
    · have B23 : sf_B 0 1 a0 := sf_leL (Int32.not_lt.mp c22) B21 B18
      have B24 : sf_B 0 1 z16 := sf_leR (Int32.not_lt.mp c22) B21 B18
      refine pm_R_op pm_M174 (pc' := 11) (st' := [.int 1]) rfl rfl rfl ?_
      refine pm_R_br pm_M174 (pc' := 15) rfl rfl ?_
      refine pm_R_ret pm_M174 (r := some (.int 1)) rfl rfl ?_
      show pm_R _ 177 13 [.ref 41, .int 0, .int a0] [.int 1] _ _
      refine pm_R_ret pm_M177 (r := some (.int 1)) rfl rfl ?_
      show pm_R _ 200 6 [.ref 41, .int a0, .int a1] [.int 1] _ _
      refine pm_R_br pm_M200 (pc' := 9) (st' := []) rfl rfl ?_
      refine pm_R_lo pm_M200 (pc' := 10) rfl rfl rfl ?_
      refine pm_R_op pm_M200 (pc' := 11) (st' := [.int 1, .ref 41]) rfl rfl rfl ?_
      refine pm_R_lo pm_M200 (pc' := 12) rfl rfl rfl ?_
      refine pm_R_cv pm_M200 (pc' := 15) (a := 41) (ra := [.int a1, .int 1]) (rest := []) (ls' := [.ref 41, .int 1, .int a1]) rfl rfl (Or.inl rfl) pm_M177 T2.2.1 rfl (by decide) (Nat.lt_of_lt_of_le (by decide) T2.1) rfl rfl (Nat.le_of_ble_eq_true rfl) rfl rfl ?_
      refine pm_R_lo pm_M177 (pc' := 1) rfl rfl rfl ?_
      refine pm_R_op pm_M177 (pc' := 2) (st' := [.int 0, .int a1]) rfl rfl rfl ?_
      refine pm_R_lo pm_M177 (pc' := 3) rfl rfl rfl ?_
      refine rf_R_get pm_M177 T2 (pc' := 6) (v := .ref 46) rfl rfl rfl rfl ?_
      refine pm_R_lo pm_M177 (pc' := 7) rfl rfl rfl ?_
      refine rf_R_ild pm_M177 T2 (pc' := 8) rfl e11 (by decide) rfl rfl (fun z25 ez26 => ?_)
      have B27 : sf_B 0 3 z25 := ez26 ▸ (b12 1)
      refine pm_R_op pm_M177 (pc' := 9) (st' := [.int 1, .int z25, .int 0, .int a1]) rfl rfl rfl ?_
      refine sf_R_isub pm_M177 (pc' := 10) rfl rfl B27 sf_k1 (by decide) (by decide) (fun z28 e29 B30 => ?_)
      refine pm_R_cs pm_M177 (pc' := 13) (ra := [.int z28, .int 0, .int a1]) (rest := []) (ls' := [.int a1, .int 0, .int z28]) rfl rfl (Or.inl rfl) pm_M174 rfl rfl (Nat.le_of_ble_eq_true rfl) rfl rfl ?_
      refine pm_R_lo pm_M174 (pc' := 1) rfl rfl rfl ?_
      refine pm_R_lo pm_M174 (pc' := 2) rfl rfl rfl ?_
      refine pm_R_icmp pm_M174 (t := 14) (pc' := 5) rfl rfl rfl (fun c31 => ?_) (fun c31 => ?_)
      · have B32 : sf_B (-2147483648) (-1) a1 := sf_ltL c31 (sf_any a1) sf_k0
        refine pm_R_op pm_M174 (pc' := 15) (st' := [.int 0]) rfl rfl rfl ?_
        refine pm_R_ret pm_M174 (r := some (.int 0)) rfl rfl ?_
        show pm_R _ 177 13 [.ref 41, .int 1, .int a1] [.int 0] _ _
        refine pm_R_ret pm_M177 (r := some (.int 0)) rfl rfl ?_
        show pm_R _ 200 15 [.ref 41, .int a0, .int a1] [.int 0] _ _
        refine pm_R_br pm_M200 (pc' := 18) (st' := []) rfl rfl ?_
        refine pm_R_op pm_M200 (pc' := 19) (st' := [.int 0]) rfl rfl rfl ?_
        refine pm_R_ret pm_M200 (r := some (.int 0)) rfl rfl ?_
        show pm_R _ 251 11 [.ref 41, .int a0, .int a1, pm_no, pm_no, pm_no, pm_no, pm_no, pm_no] [.int 0] _ _
        refine pm_R_br pm_M251 (pc' := 14) (st' := []) rfl rfl ?_
        refine pm_R_op pm_M251 (pc' := 15) (st' := [.int (-1)]) rfl rfl rfl ?_
        exact pm_R_ret pm_M251 (r := some (.int (-1))) rfl rfl (K (-1) m4 w h1 T2 F6 W9)
      · have B33 : sf_B 0 2147483647 a1 := sf_leR (Int32.not_lt.mp c31) sf_k0 (sf_any a1)
        refine pm_R_lo pm_M174 (pc' := 6) rfl rfl rfl ?_
        refine pm_R_lo pm_M174 (pc' := 7) rfl rfl rfl ?_
        refine pm_R_icmp pm_M174 (t := 14) (pc' := 10) rfl rfl rfl (fun c34 => ?_) (fun c34 => ?_)
        · skip
          refine pm_R_op pm_M174 (pc' := 15) (st' := [.int 0]) rfl rfl rfl ?_
          refine pm_R_ret pm_M174 (r := some (.int 0)) rfl rfl ?_
          show pm_R _ 177 13 [.ref 41, .int 1, .int a1] [.int 0] _ _
          refine pm_R_ret pm_M177 (r := some (.int 0)) rfl rfl ?_
          show pm_R _ 200 15 [.ref 41, .int a0, .int a1] [.int 0] _ _
          refine pm_R_br pm_M200 (pc' := 18) (st' := []) rfl rfl ?_
          refine pm_R_op pm_M200 (pc' := 19) (st' := [.int 0]) rfl rfl rfl ?_
          refine pm_R_ret pm_M200 (r := some (.int 0)) rfl rfl ?_
          show pm_R _ 251 11 [.ref 41, .int a0, .int a1, pm_no, pm_no, pm_no, pm_no, pm_no, pm_no] [.int 0] _ _
          refine pm_R_br pm_M251 (pc' := 14) (st' := []) rfl rfl ?_
          refine pm_R_op pm_M251 (pc' := 15) (st' := [.int (-1)]) rfl rfl rfl ?_
          exact pm_R_ret pm_M251 (r := some (.int (-1))) rfl rfl (K (-1) m4 w h1 T2 F6 W9)
        · have V35 := rf_V.mk e11 ez26 e29 (Int32.not_lt.mp c34) B33 (by decide)
          have V35 := V35.back F6 (by decide)
          have B36 : sf_B 0 2 a1 := sf_leL (Int32.not_lt.mp c34) B33 B30
          have B37 : sf_B 0 2 z28 := sf_leR (Int32.not_lt.mp c34) B33 B30
          refine pm_R_op pm_M174 (pc' := 11) (st' := [.int 1]) rfl rfl rfl ?_
          refine pm_R_br pm_M174 (pc' := 15) rfl rfl ?_
          refine pm_R_ret pm_M174 (r := some (.int 1)) rfl rfl ?_
          show pm_R _ 177 13 [.ref 41, .int 1, .int a1] [.int 1] _ _
          refine pm_R_ret pm_M177 (r := some (.int 1)) rfl rfl ?_
          show pm_R _ 200 15 [.ref 41, .int a0, .int a1] [.int 1] _ _
          refine pm_R_br pm_M200 (pc' := 20) (st' := []) rfl rfl ?_
          refine pm_R_lo pm_M200 (pc' := 21) rfl rfl rfl ?_
          refine pm_R_lo pm_M200 (pc' := 22) rfl rfl rfl ?_
          refine pm_R_lo pm_M200 (pc' := 23) rfl rfl rfl ?_
          refine pm_R_cv pm_M200 (pc' := 26) (a := 41) (ra := [.int a1, .int a0]) (rest := []) (ls' := [.ref 41, .int a0, .int a1, pm_no]) rfl rfl (Or.inl rfl) pm_M201 T2.2.1 rfl (by decide) (Nat.lt_of_lt_of_le (by decide) T2.1) rfl rfl (Nat.le_of_ble_eq_true rfl) rfl rfl ?_
          refine rf_c201 (d := d + 4) T2 B23 B36 (V35.F F6 (by decide)) (fun m40 w41 h42 T43 F44 W45 X46 B47 => ?_)
          have F48 := F6.trans F44 (by decide)
          have W49 : rf_W [0, 23, 24, 26] m m40 := W9.trans W45 (by decide)
          show pm_R _ 200 26 [.ref 41, .int a0, .int a1] [] _ _
          refine pm_R_op pm_M200 (pc' := 27) (st' := [.int 1]) rfl rfl rfl ?_
          refine pm_R_ret pm_M200 (r := some (.int 1)) rfl rfl ?_
          show pm_R _ 251 11 [.ref 41, .int a0, .int a1, pm_no, pm_no, pm_no, pm_no, pm_no, pm_no] [.int 1] _ _
          refine pm_R_br pm_M251 (pc' := 16) (st' := []) rfl rfl ?_
          refine pm_R_lo pm_M251 (pc' := 17) rfl rfl rfl ?_
          refine rf_R_get pm_M251 T43 (pc' := 20) (v := .int (m40 24)) rfl rfl rfl rfl ?_
          refine pm_R_lo pm_M251 (pc' := 21) (ls' := [.ref 41, .int a0, .int a1, .int (m40 24), pm_no, pm_no, pm_no, pm_no, pm_no]) (st' := []) rfl rfl rfl ?_
          refine pm_R_lo pm_M251 (pc' := 22) rfl rfl rfl ?_
          refine pm_R_cv pm_M251 (pc' := 25) (a := 41) (ra := []) (rest := []) (ls' := [.ref 41]) rfl rfl (Or.inl rfl) pm_M215 T43.2.1 rfl (by decide) (Nat.lt_of_lt_of_le (by decide) T43.1) rfl rfl (Nat.le_of_ble_eq_true rfl) rfl rfl ?_
          refine rf_c215 (d := d + 0) T43 B47 (fun r50 m52 w53 h54 T55 F56 W57 => ?_)
          have F58 := F48.trans F56 (by decide)
          have B59 : sf_B 1 12 (m52 24) := by rw [W57 24 (by decide)]; exact B47
          have W60 : rf_W [0, 23, 24, 26] m m52 := W49.trans W57 (by decide)
          show pm_R _ 251 25 [.ref 41, .int a0, .int a1, .int (m40 24), pm_no, pm_no, pm_no, pm_no, pm_no] [.long r50] _ _
          refine pm_R_lo pm_M251 (pc' := 27) (ls' := [.ref 41, .int a0, .int a1, .int (m40 24), .long r50, pm_no, pm_no, pm_no, pm_no]) (st' := []) rfl rfl rfl ?_
          refine pm_R_op pm_M251 (pc' := 28) (st' := [.int 0]) rfl rfl rfl ?_
          refine pm_R_lo pm_M251 (pc' := 30) (ls' := [.ref 41, .int a0, .int a1, .int (m40 24), .long r50, pm_no, .int 0, pm_no, pm_no]) (st' := []) rfl rfl rfl ?_
          refine pm_R_op pm_M251 (pc' := 31) (st' := [.int 0]) rfl rfl rfl ?_
          refine pm_R_lo pm_M251 (pc' := 33) (ls' := [.ref 41, .int a0, .int a1, .int (m40 24), .long r50, pm_no, .int 0, .int 0, pm_no]) (st' := []) rfl rfl rfl ?_
          have L_1498 : ∀ (N : Nat) (h_1498 : pm_H) (m_1498 : Nat → Int32) (w_1498 : Int64) (x6_1498 : Int32) (x7_1498 : Int32) (g8_1498 : Value), rf_T m_1498 w_1498 h_1498 → rf_G [41, 53, 54] h h_1498 → rf_W [23, 24, 26] m52 m_1498 → sf_B (-2147483648) 2147483647 x6_1498 → sf_B 0 12 x7_1498 → g8_1498.category = 1 → (12 - x7_1498.toInt).toNat = N → pm_R (d + 6) 251 33 [.ref 41, .int a0, .int a1, .int (m40 24), .long r50, pm_no, .int x6_1498, .int x7_1498, g8_1498] [] h_1498 Q := by
            intro N
            induction N using Nat.strongRecOn with
            | ind N ih_1498 =>
              intro h_1498 m_1498 w_1498 x6_1498 x7_1498 g8_1498 T_1498 F_1498 W_1498 Bx6_1498 Bx7_1498 Cg8_1498 hN_1498
              have W1501 : rf_W [0, 23, 24, 26] m m_1498 := W60.trans W_1498 (by decide)
              refine pm_R_lo pm_M251 (pc' := 35) rfl rfl rfl ?_
              refine pm_R_lo pm_M251 (pc' := 36) rfl rfl rfl ?_
              refine pm_R_icmp pm_M251 (t := 124) (pc' := 39) rfl rfl rfl (fun c1502 => ?_) (fun c1502 => ?_)
              · have B1503 : sf_B 1 12 x7_1498 := sf_leR c1502 B47 Bx7_1498
                refine pm_R_lo pm_M251 (pc' := 126) (pm_q251_1 (Nat.le_of_ble_eq_true rfl)) rfl rfl ?_
                exact pm_R_ret pm_M251 (r := some (.int x6_1498)) (pm_q251_1 (Nat.le_of_ble_eq_true rfl)) (pm_ret_i _) (K x6_1498 m_1498 w_1498 h_1498 T_1498 F_1498 W1501)
              · have B1504 : sf_B 0 11 x7_1498 := sf_ltL (Int32.not_le.mp c1502) Bx7_1498 B47
                refine pm_R_lo pm_M251 (pc' := 40) rfl rfl rfl ?_
                refine pm_R_op pm_M251 (pc' := 41) (st' := [.int 1, .int (m40 24)]) rfl rfl rfl ?_
                refine pm_R_icmp pm_M251 (t := 124) (pc' := 44) rfl rfl rfl (fun c1505 => ?_) (fun c1505 => ?_)
                · have B1506 : sf_B 1 1 (m40 24) := sf_leL c1505 B47 sf_k1
                  refine pm_R_lo pm_M251 (pc' := 126) (pm_q251_1 (Nat.le_of_ble_eq_true rfl)) rfl rfl ?_
                  exact pm_R_ret pm_M251 (r := some (.int x6_1498)) (pm_q251_1 (Nat.le_of_ble_eq_true rfl)) (pm_ret_i _) (K x6_1498 m_1498 w_1498 h_1498 T_1498 F_1498 W1501)
                · have B1507 : sf_B 2 12 (m40 24) := sf_ltR (Int32.not_le.mp c1505) sf_k1 B47
                  refine pm_R_lo pm_M251 (pc' := 45) rfl rfl rfl ?_
                  refine pm_R_lo pm_M251 (pc' := 46) rfl rfl rfl ?_
                  refine pm_R_lo pm_M251 (pc' := 47) rfl rfl rfl ?_
                  refine pm_R_cv pm_M251 (pc' := 50) (a := 41) (ra := [.int a1, .int a0]) (rest := []) (ls' := [.ref 41, .int a0, .int a1, pm_no]) rfl rfl (Or.inl rfl) pm_M201 T_1498.2.1 rfl (by decide) (Nat.lt_of_lt_of_le (by decide) T_1498.1) rfl rfl (Nat.le_of_ble_eq_true rfl) rfl rfl ?_
                  refine rf_c201 (d := d + 5) T_1498 B23 B36 (V35.F F_1498 (by decide)) (fun m1510 w1511 h1512 T1513 F1514 W1515 X1516 B1517 => ?_)
                  have F1518 := F_1498.trans F1514 (by decide)
                  have W1519 : rf_W [0, 23, 24, 26] m m1510 := W1501.trans W1515 (by decide)
                  have W1520 : rf_W [23, 24, 26] m52 m1510 := W_1498.trans W1515 (by decide)
                  show pm_R _ 251 50 [.ref 41, .int a0, .int a1, .int (m40 24), .long r50, pm_no, .int x6_1498, .int x7_1498, g8_1498] [] _ _
                  have q1521 : (m1510 24).toInt = (m40 24).toInt := rf_layEq T F6 F_1498 (by decide) X46 X1516
                  have B1522 : sf_B 2 12 (m1510 24) := sf_eqT q1521 B1507
                  refine pm_R_lo pm_M251 (pc' := 51) rfl rfl rfl ?_
                  refine pm_R_op pm_M251 (pc' := 52) (st' := [.ref 41, .ref 41]) rfl rfl rfl ?_
                  refine rf_R_get pm_M251 T1513 (pc' := 55) (v := .int (m1510 24)) rfl rfl rfl rfl ?_
                  refine pm_R_op pm_M251 (pc' := 56) (st' := [.int 1, .int (m1510 24), .ref 41]) rfl rfl rfl ?_
                  refine sf_R_isub pm_M251 (pc' := 57) rfl rfl B1522 sf_k1 (by decide) (by decide) (fun z1523 e1524 B1525 => ?_)
                  refine rf_R_put pm_M251 T1513 (pc' := 60) rfl rfl rfl (by decide) rfl rfl (sf_weak B1525 (by decide) (by decide)) rfl rfl (fun h1526 m1529 em1530 T1527 F1528 => ?_)
                  have F1531 := F1518.trans F1528 (by decide)
                  have B1532 : sf_B 1 11 (m1529 24) := by rw [em1530]; exact B1525
                  have ek1533 : (m1529 24).toInt = (z1523).toInt := by rw [em1530]; rfl
                  have W1534 : rf_W [0, 23, 24, 26] m m1529 := by rw [em1530]; exact W1519.put (by decide)
                  have W1535 : rf_W [23, 24, 26] m52 m1529 := by rw [em1530]; exact W1520.put (by decide)
                  refine pm_R_lo pm_M251 (pc' := 62) rfl rfl rfl ?_
                  refine pm_R_lo pm_M251 (pc' := 64) (ls' := [.ref 41, .int a0, .int a1, .int (m40 24), .long r50, pm_no, .int x6_1498, .int x7_1498, .int x7_1498]) (st' := []) rfl rfl rfl ?_
                  have L_1652 : ∀ (N : Nat) (h_1652 : pm_H) (m_1652 : Nat → Int32) (w_1652 : Int64) (x8_1652 : Int32), rf_T m_1652 w_1652 h_1652 → rf_G [41, 53, 54] h h_1652 → rf_W [] m1529 m_1652 → sf_B 0 11 x8_1652 → (11 - x8_1652.toInt).toNat = N → pm_R (d + 6) 251 64 [.ref 41, .int a0, .int a1, .int (m40 24), .long r50, pm_no, .int x6_1498, .int x7_1498, .int x8_1652] [] h_1652 Q := by
                    intro N
                    induction N using Nat.strongRecOn with
                    | ind N ih_1652 =>
                      intro h_1652 m_1652 w_1652 x8_1652 T_1652 F_1652 W_1652 Bx8_1652 hN_1652
                      have B1655 : sf_B 1 11 (m_1652 24) := by rw [W_1652 24 (by decide)]; exact B1532
                      have ek1656 : (m_1652 24).toInt = (z1523).toInt := by rw [W_1652 24 (by decide)]; exact ek1533
                      have W1657 : rf_W [0, 23, 24, 26] m m_1652 := W1534.trans W_1652 (by decide)
                      have W1658 : rf_W [23, 24, 26] m52 m_1652 := W1535.trans W_1652 (by decide)
                      refine pm_R_lo pm_M251 (pc' := 66) rfl rfl rfl ?_
                      refine pm_R_lo pm_M251 (pc' := 67) rfl rfl rfl ?_
                      refine rf_R_get pm_M251 T_1652 (pc' := 70) (v := .int (m_1652 24)) rfl rfl rfl rfl ?_
                      refine pm_R_icmp pm_M251 (t := 95) (pc' := 73) rfl rfl rfl (fun c1659 => ?_) (fun c1659 => ?_)
                      · have B1660 : sf_B 1 11 x8_1652 := sf_leR c1659 B1655 Bx8_1652
                        refine pm_R_lo pm_M251 (pc' := 97) rfl rfl rfl ?_
                        refine pm_R_lo pm_M251 (pc' := 98) rfl rfl rfl ?_
                        refine pm_R_cv pm_M251 (pc' := 101) (a := 41) (ra := []) (rest := [.int x6_1498]) (ls' := [.ref 41]) rfl rfl (Or.inl rfl) pm_M215 T_1652.2.1 rfl (by decide) (Nat.lt_of_lt_of_le (by decide) T_1652.1) rfl rfl (Nat.le_of_ble_eq_true rfl) rfl rfl ?_
                        refine rf_c215 (d := d + 0) T_1652 (sf_weak B1655 (by decide) (by decide)) (fun r1661 m1663 w1664 h1665 T1666 F1667 W1668 => ?_)
                        have F1669 := F_1652.trans F1667 (by decide)
                        have B1670 : sf_B 1 11 (m1663 24) := by rw [W1668 24 (by decide)]; exact B1655
                        have ek1671 : (m1663 24).toInt = (z1523).toInt := by rw [W1668 24 (by decide)]; exact ek1656
                        have W1672 : rf_W [0, 23, 24, 26] m m1663 := W1657.trans W1668 (by decide)
                        have W1673 : rf_W [23, 24, 26] m52 m1663 := W1658.trans W1668 (by decide)
                        have W1674 : rf_W [] m1529 m1663 := W_1652.trans W1668 (by decide)
                        show pm_R _ 251 101 [.ref 41, .int a0, .int a1, .int (m40 24), .long r50, pm_no, .int x6_1498, .int x7_1498, .int x8_1652] [.long r1661, .int x6_1498] _ _
                        refine pm_R_lo pm_M251 (pc' := 103) rfl rfl rfl ?_
                        refine sf_R_lcmp pm_M251 (pc' := 104) rfl rfl (fun z1675 e1676 => ?_)
                        refine pm_R_ifc pm_M251 (t := 114) (pc' := 107) rfl rfl rfl (fun c1677 => ?_) (fun c1677 => ?_)
                        · have k1678 := sf_lneC e1676 c1677
                          refine pm_R_op pm_M251 (pc' := 115) (st' := [.int 0, .int x6_1498]) (pm_q251_1 (Nat.le_of_ble_eq_true rfl)) rfl rfl ?_
                          refine sf_R_iany pm_M251 (pc' := 116) (st := []) (pm_q251_1 (Nat.le_of_ble_eq_true rfl)) rfl rfl (fun z1682 => ?_)
                          refine pm_R_lo pm_M251 (pc' := 118) (ls' := [.ref 41, .int a0, .int a1, .int (m40 24), .long r50, pm_no, .int z1682, .int x7_1498, .int x8_1652]) (st' := []) (pm_q251_1 (Nat.le_of_ble_eq_true rfl)) rfl rfl ?_
                          refine sf_R_iinc pm_M251 (pc' := 121) (ls' := fun z => [.ref 41, .int a0, .int a1, .int (m40 24), .long r50, pm_no, .int z1682, .int z, .int x8_1652]) (pm_q251_1 (Nat.le_of_ble_eq_true rfl)) B1504 rfl (by decide) (by decide) (by decide) (fun _ => rfl) rfl (fun z1683 e1684 B1685 => ?_)
                          show pm_R _ 251 121 [.ref 41, .int a0, .int a1, .int (m40 24), .long r50, pm_no, .int z1682, .int z1683, .int x8_1652] [] _ _
                          refine pm_R_br pm_M251 (pc' := 33) (pm_q251_1 (Nat.le_of_ble_eq_true rfl)) rfl ?_
                          exact ih_1498 _ (sf_up hN_1498 e1684 B1504 (by decide) (by decide)) h1665 m1663 w1664 z1682 z1683 (.int x8_1652) T1666 F1669 W1673 (sf_any z1682) (sf_weak B1685 (by decide) (by decide)) rfl rfl
                        · have B1686 : sf_B 0 0 z1675 := sf_eqL (Classical.not_not.mp c1677) sf_k0
                          refine pm_R_op pm_M251 (pc' := 108) (st' := [.int 1, .int x6_1498]) (pm_q251_1 (Nat.le_of_ble_eq_true rfl)) rfl rfl ?_
                          refine pm_R_lo pm_M251 (pc' := 110) (pm_q251_1 (Nat.le_of_ble_eq_true rfl)) rfl rfl ?_
                          refine sf_R_iany pm_M251 (pc' := 111) (st := [.int x6_1498]) (pm_q251_1 (Nat.le_of_ble_eq_true rfl)) rfl rfl (fun z1690 => ?_)
                          refine pm_R_br pm_M251 (pc' := 115) (pm_q251_1 (Nat.le_of_ble_eq_true rfl)) rfl ?_
                          refine sf_R_iany pm_M251 (pc' := 116) (st := []) (pm_q251_1 (Nat.le_of_ble_eq_true rfl)) rfl rfl (fun z1694 => ?_)
                          refine pm_R_lo pm_M251 (pc' := 118) (ls' := [.ref 41, .int a0, .int a1, .int (m40 24), .long r50, pm_no, .int z1694, .int x7_1498, .int x8_1652]) (st' := []) (pm_q251_1 (Nat.le_of_ble_eq_true rfl)) rfl rfl ?_
                          refine sf_R_iinc pm_M251 (pc' := 121) (ls' := fun z => [.ref 41, .int a0, .int a1, .int (m40 24), .long r50, pm_no, .int z1694, .int z, .int x8_1652]) (pm_q251_1 (Nat.le_of_ble_eq_true rfl)) B1504 rfl (by decide) (by decide) (by decide) (fun _ => rfl) rfl (fun z1695 e1696 B1697 => ?_)
                          show pm_R _ 251 121 [.ref 41, .int a0, .int a1, .int (m40 24), .long r50, pm_no, .int z1694, .int z1695, .int x8_1652] [] _ _
                          refine pm_R_br pm_M251 (pc' := 33) (pm_q251_1 (Nat.le_of_ble_eq_true rfl)) rfl ?_
                          exact ih_1498 _ (sf_up hN_1498 e1696 B1504 (by decide) (by decide)) h1665 m1663 w1664 z1694 z1695 (.int x8_1652) T1666 F1669 W1673 (sf_any z1694) (sf_weak B1697 (by decide) (by decide)) rfl rfl
                      · have B1698 : sf_B 0 10 x8_1652 := sf_ltL (Int32.not_le.mp c1659) Bx8_1652 B1655
                        refine pm_R_lo pm_M251 (pc' := 74) rfl rfl rfl ?_
                        refine rf_R_get pm_M251 T_1652 (pc' := 77) (v := .ref 53) rfl rfl rfl rfl ?_
                        refine pm_R_lo pm_M251 (pc' := 79) rfl rfl rfl ?_
                        refine pm_R_lo pm_M251 (pc' := 80) rfl rfl rfl ?_
                        refine rf_R_get pm_M251 T_1652 (pc' := 83) (v := .ref 53) rfl rfl rfl rfl ?_
                        refine pm_R_lo pm_M251 (pc' := 85) rfl rfl rfl ?_
                        refine pm_R_op pm_M251 (pc' := 86) (st' := [.int 1, .int x8_1652, .ref 53, .int x8_1652, .ref 53]) rfl rfl rfl ?_
                        refine sf_R_iadd pm_M251 (pc' := 87) rfl rfl B1698 sf_k1 (by decide) (by decide) (fun z1699 e1700 B1701 => ?_)
                        obtain ⟨f1702, e1703⟩ := T_1652.2.2.2.1 53 (by decide) (by decide)
                        refine rf_R_ild pm_M251 T_1652 (pc' := 88) rfl e1703 (by decide) (sf_in B1701 (by decide) (by decide)) rfl (fun z1705 ez1706 => ?_)
                        refine rf_R_ist pm_M251 T_1652 (pc' := 89) rfl e1703 (by decide) (by decide) (sf_in B1698 (by decide) (by decide)) ⟨_, rfl⟩ rfl (fun h1707 T1708 F1709 e1710 => ?_)
                        have F1711 := F_1652.trans F1709 (by decide)
                        refine sf_R_iinc pm_M251 (pc' := 92) (ls' := fun z => [.ref 41, .int a0, .int a1, .int (m40 24), .long r50, pm_no, .int x6_1498, .int x7_1498, .int z]) rfl B1698 rfl (by decide) (by decide) (by decide) (fun _ => rfl) rfl (fun z1712 e1713 B1714 => ?_)
                        show pm_R _ 251 92 [.ref 41, .int a0, .int a1, .int (m40 24), .long r50, pm_no, .int x6_1498, .int x7_1498, .int z1712] [] _ _
                        refine pm_R_br pm_M251 (pc' := 64) rfl rfl ?_
                        exact ih_1652 _ (sf_up hN_1652 e1713 B1698 (by decide) (by decide)) h1707 m_1652 w_1652 z1712 T1708 F1711 W_1652 (sf_weak B1714 (by decide) (by decide)) rfl
                  exact L_1652 _ h1526 m1529 w1511 x7_1498 T1527 F1531 (rf_W.refl _ _) B1504 rfl
          exact L_1498 _ h54 m52 w53 0 0 (pm_no) T55 F58 (rf_W.refl _ _) (sf_weak sf_k0 (by decide) (by decide)) (sf_weak sf_k0 (by decide) (by decide)) rfl rfl

set_option maxRecDepth 100000 in
set_option maxHeartbeats 4000000 in
/-- SilentTableModel.leaf -/
theorem rf_c231 {d : Nat} {m : Nat → Int32} {w : Int64} {h : pm_H} {Q : Option Value → pm_H → Prop} {a0 : Int32} (T : rf_T m w h) (Ba0 : sf_B 0 23 a0) (K : ∀ (m' : Nat → Int32) (w' : Int64) (h' : pm_H), rf_T m' w' h' → rf_G [61, 64, 65] h h' → rf_W [] m m' → Q none h') : pm_R (d + 2) 231 0 [.ref 41, .int a0, pm_no, pm_no, pm_no, pm_no] [] h Q := by
  refine pm_R_lo pm_M231 (pc' := 1) rfl rfl rfl ?_
  refine rf_R_get pm_M231 T (pc' := 4) (v := .ref 60) rfl rfl rfl rfl ?_
  refine pm_R_lo pm_M231 (pc' := 5) rfl rfl rfl ?_
  obtain ⟨f1, e2, b3⟩ := T.2.2.2.1 60 (by decide) (by decide)
  refine rf_R_lld pm_M231 T (pc' := 6) rfl e2 (by decide) (by decide) (sf_in Ba0 (by decide) (by decide)) rfl (fun z4 ez5 => ?_)
  have B6 : lf_B 0 9223372036854775807 z4 := ez5 ▸ b3 _
  refine pm_R_lo pm_M231 (pc' := 7) (ls' := [.ref 41, .int a0, .long z4, pm_no, pm_no, pm_no]) (st' := []) rfl rfl rfl ?_
  refine pm_R_lo pm_M231 (pc' := 8) rfl rfl rfl ?_
  refine rf_R_get pm_M231 T (pc' := 11) (v := .ref 58) rfl rfl rfl rfl ?_
  refine pm_R_lo pm_M231 (pc' := 12) rfl rfl rfl ?_
  obtain ⟨f7, e8, b9⟩ := T.2.2.2.1 58 (by decide) (by decide)
  refine rf_R_ild pm_M231 T (pc' := 13) rfl e8 (by decide) (sf_in Ba0 (by decide) (by decide)) rfl (fun z10 ez11 => ?_)
  have B12 : sf_B 0 11 z10 := ez11 ▸ b9 _
  refine pm_R_lo pm_M231 (pc' := 15) (ls' := [.ref 41, .int a0, .long z4, pm_no, .int z10, pm_no]) (st' := []) rfl rfl rfl ?_
  refine pm_R_op pm_M231 (pc' := 16) (st' := [.int 0]) rfl rfl rfl ?_
  refine pm_R_lo pm_M231 (pc' := 18) (ls' := [.ref 41, .int a0, .long z4, pm_no, .int z10, .int 0]) (st' := []) rfl rfl rfl ?_
  have L_1077 : ∀ (N : Nat) (x5_1077 : Int32) (y2_1077 : Int64), sf_B 0 16 x5_1077 → (16 - x5_1077.toInt).toNat = N → pm_R (d + 2) 231 18 [.ref 41, .int a0, .long y2_1077, pm_no, .int z10, .int x5_1077] [] h Q := by
    intro N
    induction N using Nat.strongRecOn with
    | ind N ih_1077 =>
      intro x5_1077 y2_1077 Bx5_1077 hN_1077
      refine pm_R_lo pm_M231 (pc' := 20) rfl rfl rfl ?_
      refine pm_R_lo pm_M231 (pc' := 21) rfl rfl rfl ?_
      refine pm_R_cv pm_M231 (pc' := 24) (a := 41) (ra := []) (rest := [.int x5_1077]) (ls' := [.ref 41]) rfl rfl (Or.inl rfl) pm_M203 T.2.1 rfl (by decide) (Nat.lt_of_lt_of_le (by decide) T.1) rfl rfl (Nat.le_of_ble_eq_true rfl) rfl rfl ?_
      refine pm_R_lo pm_M203 (pc' := 1) rfl rfl rfl ?_
      refine rf_R_get pm_M203 T (pc' := 4) (v := .ref 47) rfl rfl rfl rfl ?_
      refine pm_R_op pm_M203 (pc' := 6) (st' := [.int 100, .ref 47]) rfl rfl rfl ?_
      refine pm_R_lo pm_M203 (pc' := 7) rfl rfl rfl ?_
      have B1078 : sf_B 0 1 (m 23) := T.2.2.1 23
      refine rf_R_get pm_M203 T (pc' := 10) (v := .int (m 23)) rfl rfl rfl rfl ?_
      refine sf_R_imul pm_M203 (pc' := 11) rfl rfl sf_k100 B1078 (by decide) (by decide) (by decide) (fun z1079 e1080 B1081 => ?_)
      refine pm_R_op pm_M203 (pc' := 12) (st' := [.int 1, .int z1079, .ref 47]) rfl rfl rfl ?_
      refine sf_R_iadd pm_M203 (pc' := 13) rfl rfl B1081 sf_k1 (by decide) (by decide) (fun z1082 e1083 B1084 => ?_)
      obtain ⟨f1085, e1086, b1087⟩ := T.2.2.2.1 47 (by decide) (by decide)
      refine rf_R_ild pm_M203 T (pc' := 14) rfl e1086 (by decide) (sf_in B1084 (by decide) (by decide)) rfl (fun z1088 ez1089 => ?_)
      have e1090 : (z1082).toInt = 100 * ((m 23)).toInt + 1 := (sf_aux7 _ _ _ e1080 e1083)
      have B1091 : sf_B 0 16 z1088 := ez1089 ▸ rf_p47b b1087 e1090 B1078 (by decide)
      refine pm_R_ret pm_M203 (r := some (.int z1088)) rfl (pm_ret_i _) ?_
      show pm_R _ 231 24 [.ref 41, .int a0, .long y2_1077, pm_no, .int z10, .int x5_1077] [.int z1088, .int x5_1077] _ _
      refine pm_R_icmp pm_M231 (t := 100) (pc' := 27) rfl rfl rfl (fun c1092 => ?_) (fun c1092 => ?_)
      · skip
        exact pm_R_ret pm_M231 (r := none) rfl rfl (K m w h T (rf_G.refl [61, 64, 65] h) (rf_W.refl [] m))
      · have B1093 : sf_B 0 15 x5_1077 := sf_ltL (Int32.not_le.mp c1092) Bx5_1077 B1091
        have B1094 : sf_B 1 16 z1088 := sf_ltR (Int32.not_le.mp c1092) Bx5_1077 B1091
        refine pm_R_lo pm_M231 (pc' := 28) rfl rfl rfl ?_
        refine pm_R_lo pm_M231 (pc' := 30) rfl rfl rfl ?_
        refine pm_R_lo pm_M231 (pc' := 32) rfl rfl rfl ?_
        refine pm_R_cv pm_M231 (pc' := 35) (a := 41) (ra := [.int z10, .int x5_1077]) (rest := []) (ls' := [.ref 41, .int x5_1077, .int z10]) rfl rfl (Or.inl rfl) pm_M204 T.2.1 rfl (by decide) (Nat.lt_of_lt_of_le (by decide) T.1) rfl rfl (Nat.le_of_ble_eq_true rfl) rfl rfl ?_
        refine pm_R_lo pm_M204 (pc' := 1) rfl rfl rfl ?_
        refine rf_R_get pm_M204 T (pc' := 4) (v := .ref 53) rfl rfl rfl rfl ?_
        refine pm_R_lo pm_M204 (pc' := 5) rfl rfl rfl ?_
        obtain ⟨f1095, e1096⟩ := T.2.2.2.1 53 (by decide) (by decide)
        refine rf_R_ild pm_M204 T (pc' := 6) rfl e1096 (by decide) (sf_in B12 (by decide) (by decide)) rfl (fun z1098 ez1099 => ?_)
        refine sf_R_lany pm_M204 (pc' := 7) (st := []) rfl rfl rfl (fun z1100 => ?_)
        refine pm_R_lo pm_M204 (pc' := 8) rfl rfl rfl ?_
        refine pm_R_lo pm_M204 (pc' := 9) rfl rfl rfl ?_
        refine pm_R_op pm_M204 (pc' := 10) (st' := [.int 0, .int x5_1077, .ref 41, .long z1100]) rfl rfl rfl ?_
        refine pm_R_cv pm_M204 (pc' := 13) (a := 41) (ra := [.int 0, .int x5_1077]) (rest := [.long z1100]) (ls' := [.ref 41, .int x5_1077, .int 0]) rfl rfl (Or.inl rfl) pm_M205 T.2.1 rfl (by decide) (Nat.lt_of_lt_of_le (by decide) T.1) rfl rfl (Nat.le_of_ble_eq_true rfl) rfl rfl ?_
        refine pm_R_lo pm_M205 (pc' := 1) rfl rfl rfl ?_
        refine rf_R_get pm_M205 T (pc' := 4) (v := .ref 47) rfl rfl rfl rfl ?_
        refine pm_R_op pm_M205 (pc' := 6) (st' := [.int 100, .ref 47]) rfl rfl rfl ?_
        refine pm_R_lo pm_M205 (pc' := 7) rfl rfl rfl ?_
        refine rf_R_get pm_M205 T (pc' := 10) (v := .int (m 23)) rfl rfl rfl rfl ?_
        refine sf_R_imulV pm_M205 (pc' := 11) rfl rfl sf_k100 B1078 (by decide) (by decide) (by decide) e1080 ?_
        refine pm_R_op pm_M205 (pc' := 13) (st' := [.int 42, .int z1079, .ref 47]) rfl rfl rfl ?_
        refine sf_R_iadd pm_M205 (pc' := 14) rfl rfl B1081 sf_k42 (by decide) (by decide) (fun z1101 e1102 B1103 => ?_)
        refine pm_R_op pm_M205 (pc' := 15) (st' := [.int 3, .int z1101, .ref 47]) rfl rfl rfl ?_
        refine pm_R_lo pm_M205 (pc' := 16) rfl rfl rfl ?_
        refine sf_R_imul pm_M205 (pc' := 17) rfl rfl sf_k3 B1093 (by decide) (by decide) (by decide) (fun z1104 e1105 B1106 => ?_)
        refine sf_R_iadd pm_M205 (pc' := 18) rfl rfl B1103 B1106 (by decide) (by decide) (fun z1107 e1108 B1109 => ?_)
        refine pm_R_lo pm_M205 (pc' := 19) rfl rfl rfl ?_
        refine sf_R_iadd pm_M205 (pc' := 20) rfl rfl B1109 sf_k0 (by decide) (by decide) (fun z1110 e1111 B1112 => ?_)
        refine rf_R_ild pm_M205 T (pc' := 21) rfl e1086 (by decide) (sf_in B1112 (by decide) (by decide)) rfl (fun z1113 ez1114 => ?_)
        have e1115 : (z1110).toInt = 100 * ((m 23)).toInt + 3 * (x5_1077).toInt + 42 := (sf_aux8 _ _ _ _ _ _ _ e1080 e1102 e1105 e1108 e1111)
        have B1116 : sf_B 0 9 z1113 := ez1114 ▸ rf_p47s b1087 e1115 B1078 B1093 (by decide) (by decide) (by decide)
        refine pm_R_ret pm_M205 (r := some (.int z1113)) rfl (pm_ret_i _) ?_
        show pm_R _ 204 13 [.ref 41, .int x5_1077, .int z10] [.int z1113, .long z1100] _ _
        refine pm_R_cs pm_M204 (pc' := 16) (ra := [.int z1113, .long z1100]) (rest := []) (ls' := [.long z1100, pm_no, .int z1113]) rfl rfl (Or.inl rfl) pm_M206 rfl rfl (Nat.le_of_ble_eq_true rfl) rfl rfl ?_
        refine pm_R_lo pm_M206 (pc' := 1) rfl rfl rfl ?_
        refine pm_R_lo pm_M206 (pc' := 2) rfl rfl rfl ?_
        refine sf_R_lany pm_M206 (pc' := 3) (st := []) rfl rfl rfl (fun z1117 => ?_)
        refine pm_R_op pm_M206 (pc' := 4) (st' := [.long 1, .long z1117]) rfl rfl rfl ?_
        refine sf_R_lany pm_M206 (pc' := 5) (st := []) rfl rfl rfl (fun z1118 => ?_)
        refine pm_R_op pm_M206 (pc' := 6) (st' := [.long 1, .long z1118]) rfl rfl rfl ?_
        refine sf_R_lcmp pm_M206 (pc' := 7) rfl rfl (fun z1119 e1120 => ?_)
        refine pm_R_ifc pm_M206 (t := 14) (pc' := 10) rfl rfl rfl (fun c1121 => ?_) (fun c1121 => ?_)
        · have k1122 := sf_lneC e1120 c1121
          refine pm_R_op pm_M206 (pc' := 15) (st' := [.int 0]) rfl rfl rfl ?_
          refine pm_R_ret pm_M206 (r := some (.int 0)) rfl rfl ?_
          show pm_R _ 204 16 [.ref 41, .int x5_1077, .int z10] [.int 0] _ _
          refine pm_R_br pm_M204 (pc' := 39) (st' := []) rfl rfl ?_
          refine pm_R_op pm_M204 (pc' := 40) (st' := [.int 0]) rfl rfl rfl ?_
          refine pm_R_ret pm_M204 (r := some (.int 0)) rfl rfl ?_
          show pm_R _ 231 35 [.ref 41, .int a0, .long y2_1077, pm_no, .int z10, .int x5_1077] [.int 0] _ _
          refine pm_R_br pm_M231 (pc' := 94) (st' := []) rfl rfl ?_
          refine sf_R_iinc pm_M231 (pc' := 97) (ls' := fun z => [.ref 41, .int a0, .long y2_1077, pm_no, .int z10, .int z]) rfl B1093 rfl (by decide) (by decide) (by decide) (fun _ => rfl) rfl (fun z1123 e1124 B1125 => ?_)
          show pm_R _ 231 97 [.ref 41, .int a0, .long y2_1077, pm_no, .int z10, .int z1123] [] _ _
          refine pm_R_br pm_M231 (pc' := 18) rfl rfl ?_
          exact ih_1077 _ (sf_up hN_1077 e1124 B1093 (by decide) (by decide)) z1123 y2_1077 (sf_weak B1125 (by decide) (by decide)) rfl
        · have B1126 : sf_B 0 0 z1119 := sf_eqL (Classical.not_not.mp c1121) sf_k0
          refine pm_R_op pm_M206 (pc' := 11) (st' := [.int 1]) rfl rfl rfl ?_
          refine pm_R_br pm_M206 (pc' := 15) rfl rfl ?_
          refine pm_R_ret pm_M206 (r := some (.int 1)) rfl rfl ?_
          show pm_R _ 204 16 [.ref 41, .int x5_1077, .int z10] [.int 1] _ _
          refine pm_R_br pm_M204 (pc' := 19) (st' := []) rfl rfl ?_
          refine pm_R_lo pm_M204 (pc' := 20) rfl rfl rfl ?_
          have B1127 : sf_B (-1) 11 (m 26) := T.2.2.1 26
          refine rf_R_get pm_M204 T (pc' := 23) (v := .int (m 26)) rfl rfl rfl rfl ?_
          refine pm_R_lo pm_M204 (pc' := 24) rfl rfl rfl ?_
          refine pm_R_icmp pm_M204 (t := 35) (pc' := 27) rfl rfl rfl (fun c1128 => ?_) (fun c1128 => ?_)
          · skip
            refine pm_R_op pm_M204 (pc' := 36) (st' := [.int 1]) rfl rfl rfl ?_
            refine pm_R_br pm_M204 (pc' := 40) rfl rfl ?_
            refine pm_R_ret pm_M204 (r := some (.int 1)) rfl rfl ?_
            show pm_R _ 231 35 [.ref 41, .int a0, .long y2_1077, pm_no, .int z10, .int x5_1077] [.int 1] _ _
            refine pm_R_br pm_M231 (pc' := 38) (st' := []) rfl rfl ?_
            refine pm_R_lo pm_M231 (pc' := 39) rfl rfl rfl ?_
            refine pm_R_lo pm_M231 (pc' := 41) rfl rfl rfl ?_
            refine pm_R_op pm_M231 (pc' := 42) (st' := [.int 1, .int x5_1077, .ref 41]) rfl rfl rfl ?_
            refine pm_R_cv pm_M231 (pc' := 45) (a := 41) (ra := [.int 1, .int x5_1077]) (rest := []) (ls' := [.ref 41, .int x5_1077, .int 1]) rfl rfl (Or.inl rfl) pm_M205 T.2.1 rfl (by decide) (Nat.lt_of_lt_of_le (by decide) T.1) rfl rfl (Nat.le_of_ble_eq_true rfl) rfl rfl ?_
            refine pm_R_lo pm_M205 (pc' := 1) rfl rfl rfl ?_
            refine rf_R_get pm_M205 T (pc' := 4) (v := .ref 47) rfl rfl rfl rfl ?_
            refine pm_R_op pm_M205 (pc' := 6) (st' := [.int 100, .ref 47]) rfl rfl rfl ?_
            refine pm_R_lo pm_M205 (pc' := 7) rfl rfl rfl ?_
            refine rf_R_get pm_M205 T (pc' := 10) (v := .int (m 23)) rfl rfl rfl rfl ?_
            refine sf_R_imulV pm_M205 (pc' := 11) rfl rfl sf_k100 B1078 (by decide) (by decide) (by decide) e1080 ?_
            refine pm_R_op pm_M205 (pc' := 13) (st' := [.int 42, .int z1079, .ref 47]) rfl rfl rfl ?_
            refine sf_R_iaddV pm_M205 (pc' := 14) rfl rfl B1081 sf_k42 (by decide) (by decide) e1102 ?_
            refine pm_R_op pm_M205 (pc' := 15) (st' := [.int 3, .int z1101, .ref 47]) rfl rfl rfl ?_
            refine pm_R_lo pm_M205 (pc' := 16) rfl rfl rfl ?_
            refine sf_R_imulV pm_M205 (pc' := 17) rfl rfl sf_k3 B1093 (by decide) (by decide) (by decide) e1105 ?_
            refine sf_R_iaddV pm_M205 (pc' := 18) rfl rfl B1103 B1106 (by decide) (by decide) e1108 ?_
            refine pm_R_lo pm_M205 (pc' := 19) rfl rfl rfl ?_
            refine sf_R_iadd pm_M205 (pc' := 20) rfl rfl B1109 sf_k1 (by decide) (by decide) (fun z1129 e1130 B1131 => ?_)
            refine rf_R_ild pm_M205 T (pc' := 21) rfl e1086 (by decide) (sf_in B1131 (by decide) (by decide)) rfl (fun z1132 ez1133 => ?_)
            have e1134 : (z1129).toInt = 100 * ((m 23)).toInt + 3 * (x5_1077).toInt + 43 := (sf_aux9 _ _ _ _ _ _ _ e1080 e1102 e1105 e1108 e1130)
            have B1135 : sf_B 0 5 z1132 := ez1133 ▸ rf_p47k b1087 e1134 B1078 B1093 (by decide) (by decide) (by decide)
            refine pm_R_ret pm_M205 (r := some (.int z1132)) rfl (pm_ret_i _) ?_
            show pm_R _ 231 45 [.ref 41, .int a0, .long y2_1077, pm_no, .int z10, .int x5_1077] [.int z1132] _ _
            refine pm_R_lo pm_M231 (pc' := 46) rfl rfl rfl ?_
            refine rf_R_get pm_M231 T (pc' := 49) (v := .ref 57) rfl rfl rfl rfl ?_
            refine pm_R_lo pm_M231 (pc' := 50) rfl rfl rfl ?_
            obtain ⟨f1136, e1137, b1138⟩ := T.2.2.2.1 57 (by decide) (by decide)
            refine rf_R_ild pm_M231 T (pc' := 51) rfl e1137 (by decide) (sf_in Ba0 (by decide) (by decide)) rfl (fun z1139 ez1140 => ?_)
            have B1141 : sf_B 0 5 z1139 := ez1140 ▸ b1138 _
            refine pm_R_icmp pm_M231 (t := 94) (pc' := 54) rfl rfl rfl (fun c1142 => ?_) (fun c1142 => ?_)
            · skip
              refine sf_R_iinc pm_M231 (pc' := 97) (ls' := fun z => [.ref 41, .int a0, .long y2_1077, pm_no, .int z10, .int z]) rfl B1093 rfl (by decide) (by decide) (by decide) (fun _ => rfl) rfl (fun z1143 e1144 B1145 => ?_)
              show pm_R _ 231 97 [.ref 41, .int a0, .long y2_1077, pm_no, .int z10, .int z1143] [] _ _
              refine pm_R_br pm_M231 (pc' := 18) rfl rfl ?_
              exact ih_1077 _ (sf_up hN_1077 e1144 B1093 (by decide) (by decide)) z1143 y2_1077 (sf_weak B1145 (by decide) (by decide)) rfl
            · refine pm_R_lo pm_M231 (pc' := 55) rfl rfl rfl ?_
              refine pm_R_op pm_M231 (pc' := 56) (st' := [.long 0, .long y2_1077]) rfl rfl rfl ?_
              refine sf_R_lcmp pm_M231 (pc' := 57) rfl rfl (fun z1146 e1147 => ?_)
              refine pm_R_ifc pm_M231 (t := 90) (pc' := 60) rfl rfl rfl (fun c1148 => ?_) (fun c1148 => ?_)
              · have k1149 := sf_lneC e1147 c1148
                refine pm_R_lo pm_M231 (pc' := 91) rfl rfl rfl ?_
                refine pm_R_op pm_M231 (pc' := 92) (st' := [.long 1, .long y2_1077]) rfl rfl rfl ?_
                refine sf_R_lany pm_M231 (pc' := 93) (st := []) rfl rfl rfl (fun z1150 => ?_)
                refine pm_R_lo pm_M231 (pc' := 94) (ls' := [.ref 41, .int a0, .long z1150, pm_no, .int z10, .int x5_1077]) (st' := []) rfl rfl rfl ?_
                refine sf_R_iinc pm_M231 (pc' := 97) (ls' := fun z => [.ref 41, .int a0, .long z1150, pm_no, .int z10, .int z]) rfl B1093 rfl (by decide) (by decide) (by decide) (fun _ => rfl) rfl (fun z1151 e1152 B1153 => ?_)
                show pm_R _ 231 97 [.ref 41, .int a0, .long z1150, pm_no, .int z10, .int z1151] [] _ _
                refine pm_R_br pm_M231 (pc' := 18) rfl rfl ?_
                exact ih_1077 _ (sf_up hN_1077 e1152 B1093 (by decide) (by decide)) z1151 z1150 (sf_weak B1153 (by decide) (by decide)) rfl
              · have B1154 : sf_B 0 0 z1146 := sf_eqL (Classical.not_not.mp c1148) sf_k0
                refine pm_R_lo pm_M231 (pc' := 61) rfl rfl rfl ?_
                refine rf_R_get pm_M231 T (pc' := 64) (v := .ref 65) rfl rfl rfl rfl ?_
                refine pm_R_lo pm_M231 (pc' := 66) rfl rfl rfl ?_
                refine pm_R_lo pm_M231 (pc' := 68) rfl rfl rfl ?_
                obtain ⟨f1155, e1156, b1157⟩ := T.2.2.2.1 65 (by decide) (by decide)
                refine rf_R_ist pm_M231 T (pc' := 69) rfl e1156 (by decide) (by decide) (sf_in B12 (by decide) (by decide)) ⟨_, rfl, sf_upd b1157 B1093 _⟩ rfl (fun h1158 T1159 F1160 e1161 => ?_)
                have F1162 := (rf_G.refl [61, 64, 65] h).trans F1160 (by decide)
                refine pm_R_lo pm_M231 (pc' := 70) rfl rfl rfl ?_
                refine rf_R_get pm_M231 T1159 (pc' := 73) (v := .ref 61) rfl rfl rfl rfl ?_
                refine pm_R_lo pm_M231 (pc' := 74) rfl rfl rfl ?_
                refine pm_R_op pm_M231 (pc' := 75) (st' := [.int (-1), .int a0, .ref 61]) rfl rfl rfl ?_
                obtain ⟨f1163, e1164, b1165⟩ := T1159.2.2.2.1 61 (by decide) (by decide)
                refine rf_R_ist pm_M231 T1159 (pc' := 76) rfl e1164 (by decide) (by decide) (sf_in Ba0 (by decide) (by decide)) ⟨_, rfl, sf_upd b1165 (sf_weak sf_kn1 (by decide) (by decide)) _⟩ rfl (fun h1166 T1167 F1168 e1169 => ?_)
                have F1170 := F1162.trans F1168 (by decide)
                refine pm_R_lo pm_M231 (pc' := 77) rfl rfl rfl ?_
                refine rf_R_get pm_M231 T1167 (pc' := 80) (v := .ref 64) rfl rfl rfl rfl ?_
                refine pm_R_lo pm_M231 (pc' := 81) rfl rfl rfl ?_
                refine pm_R_lo pm_M231 (pc' := 82) rfl rfl rfl ?_
                refine pm_R_lo pm_M231 (pc' := 84) rfl rfl rfl ?_
                refine pm_R_op pm_M231 (pc' := 85) (st' := [.int 2, .int x5_1077, .ref 41, .int a0, .ref 64]) rfl rfl rfl ?_
                refine pm_R_cv pm_M231 (pc' := 88) (a := 41) (ra := [.int 2, .int x5_1077]) (rest := [.int a0, .ref 64]) (ls' := [.ref 41, .int x5_1077, .int 2]) rfl rfl (Or.inl rfl) pm_M205 T1167.2.1 rfl (by decide) (Nat.lt_of_lt_of_le (by decide) T1167.1) rfl rfl (Nat.le_of_ble_eq_true rfl) rfl rfl ?_
                refine pm_R_lo pm_M205 (pc' := 1) rfl rfl rfl ?_
                refine rf_R_get pm_M205 T1167 (pc' := 4) (v := .ref 47) rfl rfl rfl rfl ?_
                refine pm_R_op pm_M205 (pc' := 6) (st' := [.int 100, .ref 47]) rfl rfl rfl ?_
                refine pm_R_lo pm_M205 (pc' := 7) rfl rfl rfl ?_
                refine rf_R_get pm_M205 T1167 (pc' := 10) (v := .int (m 23)) rfl rfl rfl rfl ?_
                refine sf_R_imulV pm_M205 (pc' := 11) rfl rfl sf_k100 B1078 (by decide) (by decide) (by decide) e1080 ?_
                refine pm_R_op pm_M205 (pc' := 13) (st' := [.int 42, .int z1079, .ref 47]) rfl rfl rfl ?_
                refine sf_R_iaddV pm_M205 (pc' := 14) rfl rfl B1081 sf_k42 (by decide) (by decide) e1102 ?_
                refine pm_R_op pm_M205 (pc' := 15) (st' := [.int 3, .int z1101, .ref 47]) rfl rfl rfl ?_
                refine pm_R_lo pm_M205 (pc' := 16) rfl rfl rfl ?_
                refine sf_R_imulV pm_M205 (pc' := 17) rfl rfl sf_k3 B1093 (by decide) (by decide) (by decide) e1105 ?_
                refine sf_R_iaddV pm_M205 (pc' := 18) rfl rfl B1103 B1106 (by decide) (by decide) e1108 ?_
                refine pm_R_lo pm_M205 (pc' := 19) rfl rfl rfl ?_
                refine sf_R_iadd pm_M205 (pc' := 20) rfl rfl B1109 sf_k2 (by decide) (by decide) (fun z1171 e1172 B1173 => ?_)
                have e1174 := (F1168.cell (by decide) (F1160.cell (by decide) e1086))
                refine rf_R_ild pm_M205 T1167 (pc' := 21) rfl e1174 (by decide) (sf_in B1173 (by decide) (by decide)) rfl (fun z1175 ez1176 => ?_)
                have e1177 : (z1171).toInt = 100 * ((m 23)).toInt + 3 * (x5_1077).toInt + 44 := (sf_aux10 _ _ _ _ _ _ _ e1080 e1102 e1105 e1108 e1172)
                have B1178 : sf_B 0 49 z1175 := ez1176 ▸ rf_p47v b1087 e1177 B1078 B1093 (by decide) (by decide) (by decide)
                refine pm_R_ret pm_M205 (r := some (.int z1175)) rfl (pm_ret_i _) ?_
                show pm_R _ 231 88 [.ref 41, .int a0, .long y2_1077, pm_no, .int z10, .int x5_1077] [.int z1175, .int a0, .ref 64] _ _
                obtain ⟨f1179, e1180⟩ := T1167.2.2.2.1 64 (by decide) (by decide)
                refine rf_R_ist pm_M231 T1167 (pc' := 89) rfl e1180 (by decide) (by decide) (sf_in Ba0 (by decide) (by decide)) ⟨_, rfl⟩ rfl (fun h1182 T1183 F1184 e1185 => ?_)
                have F1186 := F1170.trans F1184 (by decide)
                exact pm_R_ret pm_M231 (r := none) rfl rfl (K m w h1182 T1183 F1186 (rf_W.refl [] m))
          · have B1187 : sf_B 0 11 (m 26) := sf_eqL (Classical.not_not.mp c1128) B12
            refine pm_R_lo pm_M204 (pc' := 28) rfl rfl rfl ?_
            have B1188 : sf_B 0 15 (m 27) := T.2.2.1 27
            refine rf_R_get pm_M204 T (pc' := 31) (v := .int (m 27)) rfl rfl rfl rfl ?_
            refine pm_R_lo pm_M204 (pc' := 32) rfl rfl rfl ?_
            refine pm_R_icmp pm_M204 (t := 39) (pc' := 35) rfl rfl rfl (fun c1189 => ?_) (fun c1189 => ?_)
            · skip
              refine pm_R_op pm_M204 (pc' := 40) (st' := [.int 0]) rfl rfl rfl ?_
              refine pm_R_ret pm_M204 (r := some (.int 0)) rfl rfl ?_
              show pm_R _ 231 35 [.ref 41, .int a0, .long y2_1077, pm_no, .int z10, .int x5_1077] [.int 0] _ _
              refine pm_R_br pm_M231 (pc' := 94) (st' := []) rfl rfl ?_
              refine sf_R_iinc pm_M231 (pc' := 97) (ls' := fun z => [.ref 41, .int a0, .long y2_1077, pm_no, .int z10, .int z]) rfl B1093 rfl (by decide) (by decide) (by decide) (fun _ => rfl) rfl (fun z1190 e1191 B1192 => ?_)
              show pm_R _ 231 97 [.ref 41, .int a0, .long y2_1077, pm_no, .int z10, .int z1190] [] _ _
              refine pm_R_br pm_M231 (pc' := 18) rfl rfl ?_
              exact ih_1077 _ (sf_up hN_1077 e1191 B1093 (by decide) (by decide)) z1190 y2_1077 (sf_weak B1192 (by decide) (by decide)) rfl
            · refine pm_R_op pm_M204 (pc' := 36) (st' := [.int 1]) rfl rfl rfl ?_
              refine pm_R_br pm_M204 (pc' := 40) rfl rfl ?_
              refine pm_R_ret pm_M204 (r := some (.int 1)) rfl rfl ?_
              show pm_R _ 231 35 [.ref 41, .int a0, .long y2_1077, pm_no, .int z10, .int x5_1077] [.int 1] _ _
              refine pm_R_br pm_M231 (pc' := 38) (st' := []) rfl rfl ?_
              refine pm_R_lo pm_M231 (pc' := 39) rfl rfl rfl ?_
              refine pm_R_lo pm_M231 (pc' := 41) rfl rfl rfl ?_
              refine pm_R_op pm_M231 (pc' := 42) (st' := [.int 1, .int x5_1077, .ref 41]) rfl rfl rfl ?_
              refine pm_R_cv pm_M231 (pc' := 45) (a := 41) (ra := [.int 1, .int x5_1077]) (rest := []) (ls' := [.ref 41, .int x5_1077, .int 1]) rfl rfl (Or.inl rfl) pm_M205 T.2.1 rfl (by decide) (Nat.lt_of_lt_of_le (by decide) T.1) rfl rfl (Nat.le_of_ble_eq_true rfl) rfl rfl ?_
              refine pm_R_lo pm_M205 (pc' := 1) rfl rfl rfl ?_
              refine rf_R_get pm_M205 T (pc' := 4) (v := .ref 47) rfl rfl rfl rfl ?_
              refine pm_R_op pm_M205 (pc' := 6) (st' := [.int 100, .ref 47]) rfl rfl rfl ?_
              refine pm_R_lo pm_M205 (pc' := 7) rfl rfl rfl ?_
              refine rf_R_get pm_M205 T (pc' := 10) (v := .int (m 23)) rfl rfl rfl rfl ?_
              refine sf_R_imulV pm_M205 (pc' := 11) rfl rfl sf_k100 B1078 (by decide) (by decide) (by decide) e1080 ?_
              refine pm_R_op pm_M205 (pc' := 13) (st' := [.int 42, .int z1079, .ref 47]) rfl rfl rfl ?_
              refine sf_R_iaddV pm_M205 (pc' := 14) rfl rfl B1081 sf_k42 (by decide) (by decide) e1102 ?_
              refine pm_R_op pm_M205 (pc' := 15) (st' := [.int 3, .int z1101, .ref 47]) rfl rfl rfl ?_
              refine pm_R_lo pm_M205 (pc' := 16) rfl rfl rfl ?_
              refine sf_R_imulV pm_M205 (pc' := 17) rfl rfl sf_k3 B1093 (by decide) (by decide) (by decide) e1105 ?_
              refine sf_R_iaddV pm_M205 (pc' := 18) rfl rfl B1103 B1106 (by decide) (by decide) e1108 ?_
              refine pm_R_lo pm_M205 (pc' := 19) rfl rfl rfl ?_
              refine sf_R_iadd pm_M205 (pc' := 20) rfl rfl B1109 sf_k1 (by decide) (by decide) (fun z1193 e1194 B1195 => ?_)
              refine rf_R_ild pm_M205 T (pc' := 21) rfl e1086 (by decide) (sf_in B1195 (by decide) (by decide)) rfl (fun z1196 ez1197 => ?_)
              have e1198 : (z1193).toInt = 100 * ((m 23)).toInt + 3 * (x5_1077).toInt + 43 := (sf_aux9 _ _ _ _ _ _ _ e1080 e1102 e1105 e1108 e1194)
              have B1199 : sf_B 0 5 z1196 := ez1197 ▸ rf_p47k b1087 e1198 B1078 B1093 (by decide) (by decide) (by decide)
              refine pm_R_ret pm_M205 (r := some (.int z1196)) rfl (pm_ret_i _) ?_
              show pm_R _ 231 45 [.ref 41, .int a0, .long y2_1077, pm_no, .int z10, .int x5_1077] [.int z1196] _ _
              refine pm_R_lo pm_M231 (pc' := 46) rfl rfl rfl ?_
              refine rf_R_get pm_M231 T (pc' := 49) (v := .ref 57) rfl rfl rfl rfl ?_
              refine pm_R_lo pm_M231 (pc' := 50) rfl rfl rfl ?_
              obtain ⟨f1200, e1201, b1202⟩ := T.2.2.2.1 57 (by decide) (by decide)
              refine rf_R_ild pm_M231 T (pc' := 51) rfl e1201 (by decide) (sf_in Ba0 (by decide) (by decide)) rfl (fun z1203 ez1204 => ?_)
              have B1205 : sf_B 0 5 z1203 := ez1204 ▸ b1202 _
              refine pm_R_icmp pm_M231 (t := 94) (pc' := 54) rfl rfl rfl (fun c1206 => ?_) (fun c1206 => ?_)
              · skip
                refine sf_R_iinc pm_M231 (pc' := 97) (ls' := fun z => [.ref 41, .int a0, .long y2_1077, pm_no, .int z10, .int z]) rfl B1093 rfl (by decide) (by decide) (by decide) (fun _ => rfl) rfl (fun z1207 e1208 B1209 => ?_)
                show pm_R _ 231 97 [.ref 41, .int a0, .long y2_1077, pm_no, .int z10, .int z1207] [] _ _
                refine pm_R_br pm_M231 (pc' := 18) rfl rfl ?_
                exact ih_1077 _ (sf_up hN_1077 e1208 B1093 (by decide) (by decide)) z1207 y2_1077 (sf_weak B1209 (by decide) (by decide)) rfl
              · refine pm_R_lo pm_M231 (pc' := 55) rfl rfl rfl ?_
                refine pm_R_op pm_M231 (pc' := 56) (st' := [.long 0, .long y2_1077]) rfl rfl rfl ?_
                refine sf_R_lcmp pm_M231 (pc' := 57) rfl rfl (fun z1210 e1211 => ?_)
                refine pm_R_ifc pm_M231 (t := 90) (pc' := 60) rfl rfl rfl (fun c1212 => ?_) (fun c1212 => ?_)
                · have k1213 := sf_lneC e1211 c1212
                  refine pm_R_lo pm_M231 (pc' := 91) rfl rfl rfl ?_
                  refine pm_R_op pm_M231 (pc' := 92) (st' := [.long 1, .long y2_1077]) rfl rfl rfl ?_
                  refine sf_R_lany pm_M231 (pc' := 93) (st := []) rfl rfl rfl (fun z1214 => ?_)
                  refine pm_R_lo pm_M231 (pc' := 94) (ls' := [.ref 41, .int a0, .long z1214, pm_no, .int z10, .int x5_1077]) (st' := []) rfl rfl rfl ?_
                  refine sf_R_iinc pm_M231 (pc' := 97) (ls' := fun z => [.ref 41, .int a0, .long z1214, pm_no, .int z10, .int z]) rfl B1093 rfl (by decide) (by decide) (by decide) (fun _ => rfl) rfl (fun z1215 e1216 B1217 => ?_)
                  show pm_R _ 231 97 [.ref 41, .int a0, .long z1214, pm_no, .int z10, .int z1215] [] _ _
                  refine pm_R_br pm_M231 (pc' := 18) rfl rfl ?_
                  exact ih_1077 _ (sf_up hN_1077 e1216 B1093 (by decide) (by decide)) z1215 z1214 (sf_weak B1217 (by decide) (by decide)) rfl
                · have B1218 : sf_B 0 0 z1210 := sf_eqL (Classical.not_not.mp c1212) sf_k0
                  refine pm_R_lo pm_M231 (pc' := 61) rfl rfl rfl ?_
                  refine rf_R_get pm_M231 T (pc' := 64) (v := .ref 65) rfl rfl rfl rfl ?_
                  refine pm_R_lo pm_M231 (pc' := 66) rfl rfl rfl ?_
                  refine pm_R_lo pm_M231 (pc' := 68) rfl rfl rfl ?_
                  obtain ⟨f1219, e1220, b1221⟩ := T.2.2.2.1 65 (by decide) (by decide)
                  refine rf_R_ist pm_M231 T (pc' := 69) rfl e1220 (by decide) (by decide) (sf_in B12 (by decide) (by decide)) ⟨_, rfl, sf_upd b1221 B1093 _⟩ rfl (fun h1222 T1223 F1224 e1225 => ?_)
                  have F1226 := (rf_G.refl [61, 64, 65] h).trans F1224 (by decide)
                  refine pm_R_lo pm_M231 (pc' := 70) rfl rfl rfl ?_
                  refine rf_R_get pm_M231 T1223 (pc' := 73) (v := .ref 61) rfl rfl rfl rfl ?_
                  refine pm_R_lo pm_M231 (pc' := 74) rfl rfl rfl ?_
                  refine pm_R_op pm_M231 (pc' := 75) (st' := [.int (-1), .int a0, .ref 61]) rfl rfl rfl ?_
                  obtain ⟨f1227, e1228, b1229⟩ := T1223.2.2.2.1 61 (by decide) (by decide)
                  refine rf_R_ist pm_M231 T1223 (pc' := 76) rfl e1228 (by decide) (by decide) (sf_in Ba0 (by decide) (by decide)) ⟨_, rfl, sf_upd b1229 (sf_weak sf_kn1 (by decide) (by decide)) _⟩ rfl (fun h1230 T1231 F1232 e1233 => ?_)
                  have F1234 := F1226.trans F1232 (by decide)
                  refine pm_R_lo pm_M231 (pc' := 77) rfl rfl rfl ?_
                  refine rf_R_get pm_M231 T1231 (pc' := 80) (v := .ref 64) rfl rfl rfl rfl ?_
                  refine pm_R_lo pm_M231 (pc' := 81) rfl rfl rfl ?_
                  refine pm_R_lo pm_M231 (pc' := 82) rfl rfl rfl ?_
                  refine pm_R_lo pm_M231 (pc' := 84) rfl rfl rfl ?_
                  refine pm_R_op pm_M231 (pc' := 85) (st' := [.int 2, .int x5_1077, .ref 41, .int a0, .ref 64]) rfl rfl rfl ?_
                  refine pm_R_cv pm_M231 (pc' := 88) (a := 41) (ra := [.int 2, .int x5_1077]) (rest := [.int a0, .ref 64]) (ls' := [.ref 41, .int x5_1077, .int 2]) rfl rfl (Or.inl rfl) pm_M205 T1231.2.1 rfl (by decide) (Nat.lt_of_lt_of_le (by decide) T1231.1) rfl rfl (Nat.le_of_ble_eq_true rfl) rfl rfl ?_
                  refine pm_R_lo pm_M205 (pc' := 1) rfl rfl rfl ?_
                  refine rf_R_get pm_M205 T1231 (pc' := 4) (v := .ref 47) rfl rfl rfl rfl ?_
                  refine pm_R_op pm_M205 (pc' := 6) (st' := [.int 100, .ref 47]) rfl rfl rfl ?_
                  refine pm_R_lo pm_M205 (pc' := 7) rfl rfl rfl ?_
                  refine rf_R_get pm_M205 T1231 (pc' := 10) (v := .int (m 23)) rfl rfl rfl rfl ?_
                  refine sf_R_imulV pm_M205 (pc' := 11) rfl rfl sf_k100 B1078 (by decide) (by decide) (by decide) e1080 ?_
                  refine pm_R_op pm_M205 (pc' := 13) (st' := [.int 42, .int z1079, .ref 47]) rfl rfl rfl ?_
                  refine sf_R_iaddV pm_M205 (pc' := 14) rfl rfl B1081 sf_k42 (by decide) (by decide) e1102 ?_
                  refine pm_R_op pm_M205 (pc' := 15) (st' := [.int 3, .int z1101, .ref 47]) rfl rfl rfl ?_
                  refine pm_R_lo pm_M205 (pc' := 16) rfl rfl rfl ?_
                  refine sf_R_imulV pm_M205 (pc' := 17) rfl rfl sf_k3 B1093 (by decide) (by decide) (by decide) e1105 ?_
                  refine sf_R_iaddV pm_M205 (pc' := 18) rfl rfl B1103 B1106 (by decide) (by decide) e1108 ?_
                  refine pm_R_lo pm_M205 (pc' := 19) rfl rfl rfl ?_
                  refine sf_R_iadd pm_M205 (pc' := 20) rfl rfl B1109 sf_k2 (by decide) (by decide) (fun z1235 e1236 B1237 => ?_)
                  have e1238 := (F1232.cell (by decide) (F1224.cell (by decide) e1086))
                  refine rf_R_ild pm_M205 T1231 (pc' := 21) rfl e1238 (by decide) (sf_in B1237 (by decide) (by decide)) rfl (fun z1239 ez1240 => ?_)
                  have e1241 : (z1235).toInt = 100 * ((m 23)).toInt + 3 * (x5_1077).toInt + 44 := (sf_aux10 _ _ _ _ _ _ _ e1080 e1102 e1105 e1108 e1236)
                  have B1242 : sf_B 0 49 z1239 := ez1240 ▸ rf_p47v b1087 e1241 B1078 B1093 (by decide) (by decide) (by decide)
                  refine pm_R_ret pm_M205 (r := some (.int z1239)) rfl (pm_ret_i _) ?_
                  show pm_R _ 231 88 [.ref 41, .int a0, .long y2_1077, pm_no, .int z10, .int x5_1077] [.int z1239, .int a0, .ref 64] _ _
                  obtain ⟨f1243, e1244⟩ := T1231.2.2.2.1 64 (by decide) (by decide)
                  refine rf_R_ist pm_M231 T1231 (pc' := 89) rfl e1244 (by decide) (by decide) (sf_in Ba0 (by decide) (by decide)) ⟨_, rfl⟩ rfl (fun h1246 T1247 F1248 e1249 => ?_)
                  have F1250 := F1234.trans F1248 (by decide)
                  exact pm_R_ret pm_M231 (r := none) rfl rfl (K m w h1246 T1247 F1250 (rf_W.refl [] m))
  exact L_1077 _ 0 z4 (sf_weak sf_k0 (by decide) (by decide)) rfl
